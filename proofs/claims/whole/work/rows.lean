section
-- ===== PART A: goes FIRST, ahead of the names: the tables' words, and 'selects' of the private methods out of them =====
/-- a private method of a class that the tables say can be made, by its rows of tables_1 -/
def lw_okq (q : MethodName × Nat) : Prop := (q.1.cls ≠ "java/lang/invoke/MethodHandle" ∧ q.1.cls ≠ "java/lang/invoke/VarHandle") ∧ Cond.instantiable q.1.cls q.2 ∈ tables_1 ∧ Cond.privateMethod q.1 ∈ tables_1 ∧ Cond.instanceMethod q.1 ∈ tables_1
theorem lw_p0 : lw_okq (⟨"RumorTombs", "recorded", "(I)I"⟩, 4) := ⟨⟨by decide +kernel, by decide +kernel⟩, List.mem_of_getElem? (i := 10) (by decide +kernel), List.mem_of_getElem? (i := 166) (by decide +kernel), List.mem_of_getElem? (i := 167) (by decide +kernel)⟩
theorem lw_p1 : lw_okq (⟨"RumorTombs$History", "dropOldest", "()V"⟩, 2) := ⟨⟨by decide +kernel, by decide +kernel⟩, List.mem_of_getElem? (i := 83) (by decide +kernel), List.mem_of_getElem? (i := 174) (by decide +kernel), List.mem_of_getElem? (i := 175) (by decide +kernel)⟩
theorem lw_p2 : lw_okq (⟨"RumorTombs$Village", "write", "(III)V"⟩, 15) := ⟨⟨by decide +kernel, by decide +kernel⟩, List.mem_of_getElem? (i := 18) (by decide +kernel), List.mem_of_getElem? (i := 271) (by decide +kernel), List.mem_of_getElem? (i := 272) (by decide +kernel)⟩
theorem lw_p3 : lw_okq (⟨"RumorTombs$Village", "giver", "(III)I"⟩, 15) := ⟨⟨by decide +kernel, by decide +kernel⟩, List.mem_of_getElem? (i := 18) (by decide +kernel), List.mem_of_getElem? (i := 302) (by decide +kernel), List.mem_of_getElem? (i := 303) (by decide +kernel)⟩
theorem lw_p4 : lw_okq (⟨"RumorTombs$Village", "mayHand", "(III)Z"⟩, 15) := ⟨⟨by decide +kernel, by decide +kernel⟩, List.mem_of_getElem? (i := 18) (by decide +kernel), List.mem_of_getElem? (i := 306) (by decide +kernel), List.mem_of_getElem? (i := 307) (by decide +kernel)⟩
theorem lw_p5 : lw_okq (⟨"RumorTombs$Village", "hand", "(III)V"⟩, 15) := ⟨⟨by decide +kernel, by decide +kernel⟩, List.mem_of_getElem? (i := 18) (by decide +kernel), List.mem_of_getElem? (i := 314) (by decide +kernel), List.mem_of_getElem? (i := 315) (by decide +kernel)⟩
theorem lw_p6 : lw_okq (⟨"RumorTombs$Village", "shareSight", "(III)V"⟩, 15) := ⟨⟨by decide +kernel, by decide +kernel⟩, List.mem_of_getElem? (i := 18) (by decide +kernel), List.mem_of_getElem? (i := 318) (by decide +kernel), List.mem_of_getElem? (i := 319) (by decide +kernel)⟩
theorem lw_p7 : lw_okq (⟨"RumorTombs$Village", "present", "()I"⟩, 15) := ⟨⟨by decide +kernel, by decide +kernel⟩, List.mem_of_getElem? (i := 18) (by decide +kernel), List.mem_of_getElem? (i := 347) (by decide +kernel), List.mem_of_getElem? (i := 348) (by decide +kernel)⟩
theorem lw_p8 : lw_okq (⟨"RumorTombs$Village", "isOver", "(II)Z"⟩, 15) := ⟨⟨by decide +kernel, by decide +kernel⟩, List.mem_of_getElem? (i := 18) (by decide +kernel), List.mem_of_getElem? (i := 351) (by decide +kernel), List.mem_of_getElem? (i := 352) (by decide +kernel)⟩
theorem lw_p9 : lw_okq (⟨"RumorTombs$Orders", "tryOrder", "(IILRumorTombs$Village;)I"⟩, 6) := ⟨⟨by decide +kernel, by decide +kernel⟩, List.mem_of_getElem? (i := 100) (by decide +kernel), List.mem_of_getElem? (i := 470) (by decide +kernel), List.mem_of_getElem? (i := 471) (by decide +kernel)⟩
theorem lw_p10 : lw_okq (⟨"RumorTombs$Orders", "readNumbers", "(II)Z"⟩, 6) := ⟨⟨by decide +kernel, by decide +kernel⟩, List.mem_of_getElem? (i := 100) (by decide +kernel), List.mem_of_getElem? (i := 474) (by decide +kernel), List.mem_of_getElem? (i := 475) (by decide +kernel)⟩
theorem lw_p11 : lw_okq (⟨"RumorTombs$Orders", "namesExist", "(CLRumorTombs$Village;)Z"⟩, 6) := ⟨⟨by decide +kernel, by decide +kernel⟩, List.mem_of_getElem? (i := 100) (by decide +kernel), List.mem_of_getElem? (i := 481) (by decide +kernel), List.mem_of_getElem? (i := 482) (by decide +kernel)⟩
theorem lw_p12 : lw_okq (⟨"RumorTombs$Orders", "doOrder", "(CLRumorTombs$Village;)I"⟩, 6) := ⟨⟨by decide +kernel, by decide +kernel⟩, List.mem_of_getElem? (i := 100) (by decide +kernel), List.mem_of_getElem? (i := 487) (by decide +kernel), List.mem_of_getElem? (i := 488) (by decide +kernel)⟩
theorem lw_p13 : lw_okq (⟨"RumorTombs$Orders", "setFault", "(II)V"⟩, 6) := ⟨⟨by decide +kernel, by decide +kernel⟩, List.mem_of_getElem? (i := 100) (by decide +kernel), List.mem_of_getElem? (i := 497) (by decide +kernel), List.mem_of_getElem? (i := 498) (by decide +kernel)⟩
theorem lw_p14 : lw_okq (⟨"RumorTombsModel", "keeps", "()V"⟩, 10) := ⟨⟨by decide +kernel, by decide +kernel⟩, List.mem_of_getElem? (i := 505) (by decide +kernel), List.mem_of_getElem? (i := 547) (by decide +kernel), List.mem_of_getElem? (i := 548) (by decide +kernel)⟩
theorem lw_p15 : lw_okq (⟨"RumorTombsModel", "acted", "(I)I"⟩, 10) := ⟨⟨by decide +kernel, by decide +kernel⟩, List.mem_of_getElem? (i := 505) (by decide +kernel), List.mem_of_getElem? (i := 551) (by decide +kernel), List.mem_of_getElem? (i := 552) (by decide +kernel)⟩
def lw_privs_1 : List (MethodName × Nat) := [(⟨"RumorTombs", "recorded", "(I)I"⟩, 4), (⟨"RumorTombs$History", "dropOldest", "()V"⟩, 2), (⟨"RumorTombs$Village", "write", "(III)V"⟩, 15), (⟨"RumorTombs$Village", "giver", "(III)I"⟩, 15), (⟨"RumorTombs$Village", "mayHand", "(III)Z"⟩, 15), (⟨"RumorTombs$Village", "hand", "(III)V"⟩, 15), (⟨"RumorTombs$Village", "shareSight", "(III)V"⟩, 15), (⟨"RumorTombs$Village", "present", "()I"⟩, 15), (⟨"RumorTombs$Village", "isOver", "(II)Z"⟩, 15), (⟨"RumorTombs$Orders", "tryOrder", "(IILRumorTombs$Village;)I"⟩, 6), (⟨"RumorTombs$Orders", "readNumbers", "(II)Z"⟩, 6), (⟨"RumorTombs$Orders", "namesExist", "(CLRumorTombs$Village;)Z"⟩, 6), (⟨"RumorTombs$Orders", "doOrder", "(CLRumorTombs$Village;)I"⟩, 6), (⟨"RumorTombs$Orders", "setFault", "(II)V"⟩, 6), (⟨"RumorTombsModel", "keeps", "()V"⟩, 10), (⟨"RumorTombsModel", "acted", "(I)I"⟩, 10)]
theorem lw_r1 : ∀ q ∈ lw_privs_1, lw_okq q := List.forall_mem_cons.mpr ⟨lw_p0, List.forall_mem_cons.mpr ⟨lw_p1, List.forall_mem_cons.mpr ⟨lw_p2, List.forall_mem_cons.mpr ⟨lw_p3, List.forall_mem_cons.mpr ⟨lw_p4, List.forall_mem_cons.mpr ⟨lw_p5, List.forall_mem_cons.mpr ⟨lw_p6, List.forall_mem_cons.mpr ⟨lw_p7, List.forall_mem_cons.mpr ⟨lw_p8, List.forall_mem_cons.mpr ⟨lw_p9, List.forall_mem_cons.mpr ⟨lw_p10, List.forall_mem_cons.mpr ⟨lw_p11, List.forall_mem_cons.mpr ⟨lw_p12, List.forall_mem_cons.mpr ⟨lw_p13, List.forall_mem_cons.mpr ⟨lw_p14, List.forall_mem_cons.mpr ⟨lw_p15, fun _ h => absurd h List.not_mem_nil⟩⟩⟩⟩⟩⟩⟩⟩⟩⟩⟩⟩⟩⟩⟩⟩
theorem lw_p16 : lw_okq (⟨"RumorTombsModel", "sleeps", "(I)I"⟩, 10) := ⟨⟨by decide +kernel, by decide +kernel⟩, List.mem_of_getElem? (i := 505) (by decide +kernel), List.mem_of_getElem? (i := 560) (by decide +kernel), List.mem_of_getElem? (i := 561) (by decide +kernel)⟩
theorem lw_p17 : lw_okq (⟨"RumorTombsModel", "isVillager", "(I)Z"⟩, 10) := ⟨⟨by decide +kernel, by decide +kernel⟩, List.mem_of_getElem? (i := 505) (by decide +kernel), List.mem_of_getElem? (i := 564) (by decide +kernel), List.mem_of_getElem? (i := 565) (by decide +kernel)⟩
theorem lw_p18 : lw_okq (⟨"RumorTombsModel", "isAwake", "(I)Z"⟩, 10) := ⟨⟨by decide +kernel, by decide +kernel⟩, List.mem_of_getElem? (i := 505) (by decide +kernel), List.mem_of_getElem? (i := 571) (by decide +kernel), List.mem_of_getElem? (i := 572) (by decide +kernel)⟩
theorem lw_p19 : lw_okq (⟨"RumorTombsModel", "vi", "(II)I"⟩, 10) := ⟨⟨by decide +kernel, by decide +kernel⟩, List.mem_of_getElem? (i := 505) (by decide +kernel), List.mem_of_getElem? (i := 575) (by decide +kernel), List.mem_of_getElem? (i := 576) (by decide +kernel)⟩
theorem lw_p20 : lw_okq (⟨"RumorTombsModel", "many", "(I)I"⟩, 10) := ⟨⟨by decide +kernel, by decide +kernel⟩, List.mem_of_getElem? (i := 505) (by decide +kernel), List.mem_of_getElem? (i := 580) (by decide +kernel), List.mem_of_getElem? (i := 581) (by decide +kernel)⟩
theorem lw_p21 : lw_okq (⟨"RumorTombsModel", "wakes", "(I)I"⟩, 10) := ⟨⟨by decide +kernel, by decide +kernel⟩, List.mem_of_getElem? (i := 505) (by decide +kernel), List.mem_of_getElem? (i := 588) (by decide +kernel), List.mem_of_getElem? (i := 589) (by decide +kernel)⟩
theorem lw_p22 : lw_okq (⟨"RumorTombsModel", "isGone", "(I)Z"⟩, 10) := ⟨⟨by decide +kernel, by decide +kernel⟩, List.mem_of_getElem? (i := 505) (by decide +kernel), List.mem_of_getElem? (i := 596) (by decide +kernel), List.mem_of_getElem? (i := 597) (by decide +kernel)⟩
theorem lw_p23 : lw_okq (⟨"RumorTombsModel", "topics", "(II)I"⟩, 10) := ⟨⟨by decide +kernel, by decide +kernel⟩, List.mem_of_getElem? (i := 505) (by decide +kernel), List.mem_of_getElem? (i := 611) (by decide +kernel), List.mem_of_getElem? (i := 612) (by decide +kernel)⟩
theorem lw_p24 : lw_okq (⟨"RumorTombsModel", "en", "(III)I"⟩, 10) := ⟨⟨by decide +kernel, by decide +kernel⟩, List.mem_of_getElem? (i := 505) (by decide +kernel), List.mem_of_getElem? (i := 615) (by decide +kernel), List.mem_of_getElem? (i := 616) (by decide +kernel)⟩
theorem lw_p25 : lw_okq (⟨"RumorTombsModel", "tells", "(IIII)I"⟩, 10) := ⟨⟨by decide +kernel, by decide +kernel⟩, List.mem_of_getElem? (i := 505) (by decide +kernel), List.mem_of_getElem? (i := 624) (by decide +kernel), List.mem_of_getElem? (i := 625) (by decide +kernel)⟩
theorem lw_p26 : lw_okq (⟨"RumorTombsModel", "makes", "(IIIII)I"⟩, 10) := ⟨⟨by decide +kernel, by decide +kernel⟩, List.mem_of_getElem? (i := 505) (by decide +kernel), List.mem_of_getElem? (i := 631) (by decide +kernel), List.mem_of_getElem? (i := 632) (by decide +kernel)⟩
theorem lw_p27 : lw_okq (⟨"RumorTombsModel", "buries", "(II)I"⟩, 10) := ⟨⟨by decide +kernel, by decide +kernel⟩, List.mem_of_getElem? (i := 505) (by decide +kernel), List.mem_of_getElem? (i := 639) (by decide +kernel), List.mem_of_getElem? (i := 640) (by decide +kernel)⟩
theorem lw_p28 : lw_okq (⟨"RumorTombsModel", "meetsOne", "(II)I"⟩, 10) := ⟨⟨by decide +kernel, by decide +kernel⟩, List.mem_of_getElem? (i := 505) (by decide +kernel), List.mem_of_getElem? (i := 650) (by decide +kernel), List.mem_of_getElem? (i := 651) (by decide +kernel)⟩
theorem lw_p29 : lw_okq (⟨"RumorTombsModel", "meets", "(II)I"⟩, 10) := ⟨⟨by decide +kernel, by decide +kernel⟩, List.mem_of_getElem? (i := 505) (by decide +kernel), List.mem_of_getElem? (i := 654) (by decide +kernel), List.mem_of_getElem? (i := 655) (by decide +kernel)⟩
theorem lw_p30 : lw_okq (⟨"RumorTombsModel", "passes", "(III)I"⟩, 10) := ⟨⟨by decide +kernel, by decide +kernel⟩, List.mem_of_getElem? (i := 505) (by decide +kernel), List.mem_of_getElem? (i := 658) (by decide +kernel), List.mem_of_getElem? (i := 659) (by decide +kernel)⟩
theorem lw_p31 : lw_okq (⟨"RumorTombsModel", "hasNewer", "(III)Z"⟩, 10) := ⟨⟨by decide +kernel, by decide +kernel⟩, List.mem_of_getElem? (i := 505) (by decide +kernel), List.mem_of_getElem? (i := 662) (by decide +kernel), List.mem_of_getElem? (i := 663) (by decide +kernel)⟩
def lw_privs_2 : List (MethodName × Nat) := [(⟨"RumorTombsModel", "sleeps", "(I)I"⟩, 10), (⟨"RumorTombsModel", "isVillager", "(I)Z"⟩, 10), (⟨"RumorTombsModel", "isAwake", "(I)Z"⟩, 10), (⟨"RumorTombsModel", "vi", "(II)I"⟩, 10), (⟨"RumorTombsModel", "many", "(I)I"⟩, 10), (⟨"RumorTombsModel", "wakes", "(I)I"⟩, 10), (⟨"RumorTombsModel", "isGone", "(I)Z"⟩, 10), (⟨"RumorTombsModel", "topics", "(II)I"⟩, 10), (⟨"RumorTombsModel", "en", "(III)I"⟩, 10), (⟨"RumorTombsModel", "tells", "(IIII)I"⟩, 10), (⟨"RumorTombsModel", "makes", "(IIIII)I"⟩, 10), (⟨"RumorTombsModel", "buries", "(II)I"⟩, 10), (⟨"RumorTombsModel", "meetsOne", "(II)I"⟩, 10), (⟨"RumorTombsModel", "meets", "(II)I"⟩, 10), (⟨"RumorTombsModel", "passes", "(III)I"⟩, 10), (⟨"RumorTombsModel", "hasNewer", "(III)Z"⟩, 10)]
theorem lw_r2 : ∀ q ∈ lw_privs_2, lw_okq q := List.forall_mem_cons.mpr ⟨lw_p16, List.forall_mem_cons.mpr ⟨lw_p17, List.forall_mem_cons.mpr ⟨lw_p18, List.forall_mem_cons.mpr ⟨lw_p19, List.forall_mem_cons.mpr ⟨lw_p20, List.forall_mem_cons.mpr ⟨lw_p21, List.forall_mem_cons.mpr ⟨lw_p22, List.forall_mem_cons.mpr ⟨lw_p23, List.forall_mem_cons.mpr ⟨lw_p24, List.forall_mem_cons.mpr ⟨lw_p25, List.forall_mem_cons.mpr ⟨lw_p26, List.forall_mem_cons.mpr ⟨lw_p27, List.forall_mem_cons.mpr ⟨lw_p28, List.forall_mem_cons.mpr ⟨lw_p29, List.forall_mem_cons.mpr ⟨lw_p30, List.forall_mem_cons.mpr ⟨lw_p31, fun _ h => absurd h List.not_mem_nil⟩⟩⟩⟩⟩⟩⟩⟩⟩⟩⟩⟩⟩⟩⟩⟩
theorem lw_p32 : lw_okq (⟨"RumorTombsModel", "mayPass", "(III)Z"⟩, 10) := ⟨⟨by decide +kernel, by decide +kernel⟩, List.mem_of_getElem? (i := 505) (by decide +kernel), List.mem_of_getElem? (i := 666) (by decide +kernel), List.mem_of_getElem? (i := 667) (by decide +kernel)⟩
theorem lw_p33 : lw_okq (⟨"RumorTombsModel", "isGhost", "(III)Z"⟩, 10) := ⟨⟨by decide +kernel, by decide +kernel⟩, List.mem_of_getElem? (i := 505) (by decide +kernel), List.mem_of_getElem? (i := 670) (by decide +kernel), List.mem_of_getElem? (i := 671) (by decide +kernel)⟩
theorem lw_p34 : lw_okq (⟨"RumorTombsModel", "areSame", "(III)Z"⟩, 10) := ⟨⟨by decide +kernel, by decide +kernel⟩, List.mem_of_getElem? (i := 505) (by decide +kernel), List.mem_of_getElem? (i := 674) (by decide +kernel), List.mem_of_getElem? (i := 675) (by decide +kernel)⟩
theorem lw_p35 : lw_okq (⟨"RumorTombsModel", "isDead", "(II)Z"⟩, 10) := ⟨⟨by decide +kernel, by decide +kernel⟩, List.mem_of_getElem? (i := 505) (by decide +kernel), List.mem_of_getElem? (i := 682) (by decide +kernel), List.mem_of_getElem? (i := 683) (by decide +kernel)⟩
theorem lw_p36 : lw_okq (⟨"RumorTombsModel", "ticks", "(I)I"⟩, 10) := ⟨⟨by decide +kernel, by decide +kernel⟩, List.mem_of_getElem? (i := 505) (by decide +kernel), List.mem_of_getElem? (i := 690) (by decide +kernel), List.mem_of_getElem? (i := 691) (by decide +kernel)⟩
theorem lw_p37 : lw_okq (⟨"RumorTombsModel", "tickOne", "()I"⟩, 10) := ⟨⟨by decide +kernel, by decide +kernel⟩, List.mem_of_getElem? (i := 505) (by decide +kernel), List.mem_of_getElem? (i := 695) (by decide +kernel), List.mem_of_getElem? (i := 696) (by decide +kernel)⟩
theorem lw_p38 : lw_okq (⟨"RumorTombsModel", "drops", "(III)I"⟩, 10) := ⟨⟨by decide +kernel, by decide +kernel⟩, List.mem_of_getElem? (i := 505) (by decide +kernel), List.mem_of_getElem? (i := 699) (by decide +kernel), List.mem_of_getElem? (i := 700) (by decide +kernel)⟩
theorem lw_p39 : lw_okq (⟨"RumorTombsModel", "puts", "()V"⟩, 10) := ⟨⟨by decide +kernel, by decide +kernel⟩, List.mem_of_getElem? (i := 505) (by decide +kernel), List.mem_of_getElem? (i := 719) (by decide +kernel), List.mem_of_getElem? (i := 720) (by decide +kernel)⟩
theorem lw_p40 : lw_okq (⟨"RumorTombsModel", "restores", "()V"⟩, 10) := ⟨⟨by decide +kernel, by decide +kernel⟩, List.mem_of_getElem? (i := 505) (by decide +kernel), List.mem_of_getElem? (i := 723) (by decide +kernel), List.mem_of_getElem? (i := 724) (by decide +kernel)⟩
theorem lw_p41 : lw_okq (⟨"RumorTombsModel", "areAllSame", "()Z"⟩, 10) := ⟨⟨by decide +kernel, by decide +kernel⟩, List.mem_of_getElem? (i := 505) (by decide +kernel), List.mem_of_getElem? (i := 735) (by decide +kernel), List.mem_of_getElem? (i := 736) (by decide +kernel)⟩
theorem lw_p42 : lw_okq (⟨"RumorTombsModel", "awakeBehind", "(I)I"⟩, 10) := ⟨⟨by decide +kernel, by decide +kernel⟩, List.mem_of_getElem? (i := 505) (by decide +kernel), List.mem_of_getElem? (i := 739) (by decide +kernel), List.mem_of_getElem? (i := 740) (by decide +kernel)⟩
theorem lw_p43 : lw_okq (⟨"RumorTombsModel", "round", "()V"⟩, 10) := ⟨⟨by decide +kernel, by decide +kernel⟩, List.mem_of_getElem? (i := 505) (by decide +kernel), List.mem_of_getElem? (i := 743) (by decide +kernel), List.mem_of_getElem? (i := 744) (by decide +kernel)⟩
theorem lw_p44 : lw_okq (⟨"RumorTombsModel", "entries", "(I)I"⟩, 10) := ⟨⟨by decide +kernel, by decide +kernel⟩, List.mem_of_getElem? (i := 505) (by decide +kernel), List.mem_of_getElem? (i := 751) (by decide +kernel), List.mem_of_getElem? (i := 752) (by decide +kernel)⟩
theorem lw_p45 : lw_okq (⟨"RumorTombsModel", "faulty", "()I"⟩, 10) := ⟨⟨by decide +kernel, by decide +kernel⟩, List.mem_of_getElem? (i := 505) (by decide +kernel), List.mem_of_getElem? (i := 771) (by decide +kernel), List.mem_of_getElem? (i := 772) (by decide +kernel)⟩
theorem lw_p46 : lw_okq (⟨"RumorTombsModel", "doesNext", "()I"⟩, 10) := ⟨⟨by decide +kernel, by decide +kernel⟩, List.mem_of_getElem? (i := 505) (by decide +kernel), List.mem_of_getElem? (i := 775) (by decide +kernel), List.mem_of_getElem? (i := 776) (by decide +kernel)⟩
theorem lw_p47 : lw_okq (⟨"RumorTombsModel", "readsForm", "(C)Z"⟩, 10) := ⟨⟨by decide +kernel, by decide +kernel⟩, List.mem_of_getElem? (i := 505) (by decide +kernel), List.mem_of_getElem? (i := 779) (by decide +kernel), List.mem_of_getElem? (i := 780) (by decide +kernel)⟩
def lw_privs_3 : List (MethodName × Nat) := [(⟨"RumorTombsModel", "mayPass", "(III)Z"⟩, 10), (⟨"RumorTombsModel", "isGhost", "(III)Z"⟩, 10), (⟨"RumorTombsModel", "areSame", "(III)Z"⟩, 10), (⟨"RumorTombsModel", "isDead", "(II)Z"⟩, 10), (⟨"RumorTombsModel", "ticks", "(I)I"⟩, 10), (⟨"RumorTombsModel", "tickOne", "()I"⟩, 10), (⟨"RumorTombsModel", "drops", "(III)I"⟩, 10), (⟨"RumorTombsModel", "puts", "()V"⟩, 10), (⟨"RumorTombsModel", "restores", "()V"⟩, 10), (⟨"RumorTombsModel", "areAllSame", "()Z"⟩, 10), (⟨"RumorTombsModel", "awakeBehind", "(I)I"⟩, 10), (⟨"RumorTombsModel", "round", "()V"⟩, 10), (⟨"RumorTombsModel", "entries", "(I)I"⟩, 10), (⟨"RumorTombsModel", "faulty", "()I"⟩, 10), (⟨"RumorTombsModel", "doesNext", "()I"⟩, 10), (⟨"RumorTombsModel", "readsForm", "(C)Z"⟩, 10)]
theorem lw_r3 : ∀ q ∈ lw_privs_3, lw_okq q := List.forall_mem_cons.mpr ⟨lw_p32, List.forall_mem_cons.mpr ⟨lw_p33, List.forall_mem_cons.mpr ⟨lw_p34, List.forall_mem_cons.mpr ⟨lw_p35, List.forall_mem_cons.mpr ⟨lw_p36, List.forall_mem_cons.mpr ⟨lw_p37, List.forall_mem_cons.mpr ⟨lw_p38, List.forall_mem_cons.mpr ⟨lw_p39, List.forall_mem_cons.mpr ⟨lw_p40, List.forall_mem_cons.mpr ⟨lw_p41, List.forall_mem_cons.mpr ⟨lw_p42, List.forall_mem_cons.mpr ⟨lw_p43, List.forall_mem_cons.mpr ⟨lw_p44, List.forall_mem_cons.mpr ⟨lw_p45, List.forall_mem_cons.mpr ⟨lw_p46, List.forall_mem_cons.mpr ⟨lw_p47, fun _ h => absurd h List.not_mem_nil⟩⟩⟩⟩⟩⟩⟩⟩⟩⟩⟩⟩⟩⟩⟩⟩
theorem lw_p48 : lw_okq (⟨"RumorTombsModel", "number", "(I)Z"⟩, 10) := ⟨⟨by decide +kernel, by decide +kernel⟩, List.mem_of_getElem? (i := 505) (by decide +kernel), List.mem_of_getElem? (i := 783) (by decide +kernel), List.mem_of_getElem? (i := 784) (by decide +kernel)⟩
theorem lw_p49 : lw_okq (⟨"RumorTombsModel", "has", "(C)Z"⟩, 10) := ⟨⟨by decide +kernel, by decide +kernel⟩, List.mem_of_getElem? (i := 505) (by decide +kernel), List.mem_of_getElem? (i := 787) (by decide +kernel), List.mem_of_getElem? (i := 788) (by decide +kernel)⟩
theorem lw_p50 : lw_okq (⟨"RumorTombsModel", "isThere", "(C)Z"⟩, 10) := ⟨⟨by decide +kernel, by decide +kernel⟩, List.mem_of_getElem? (i := 505) (by decide +kernel), List.mem_of_getElem? (i := 791) (by decide +kernel), List.mem_of_getElem? (i := 792) (by decide +kernel)⟩
theorem lw_p51 : lw_okq (⟨"RumorTombsModel", "does", "(C)I"⟩, 10) := ⟨⟨by decide +kernel, by decide +kernel⟩, List.mem_of_getElem? (i := 505) (by decide +kernel), List.mem_of_getElem? (i := 795) (by decide +kernel), List.mem_of_getElem? (i := 796) (by decide +kernel)⟩
def lw_privs_4 : List (MethodName × Nat) := [(⟨"RumorTombsModel", "number", "(I)Z"⟩, 10), (⟨"RumorTombsModel", "has", "(C)Z"⟩, 10), (⟨"RumorTombsModel", "isThere", "(C)Z"⟩, 10), (⟨"RumorTombsModel", "does", "(C)I"⟩, 10)]
theorem lw_r4 : ∀ q ∈ lw_privs_4, lw_okq q := List.forall_mem_cons.mpr ⟨lw_p48, List.forall_mem_cons.mpr ⟨lw_p49, List.forall_mem_cons.mpr ⟨lw_p50, List.forall_mem_cons.mpr ⟨lw_p51, fun _ h => absurd h List.not_mem_nil⟩⟩⟩⟩
def lw_privs : List (MethodName × Nat) := lw_privs_1 ++ (lw_privs_2 ++ (lw_privs_3 ++ (lw_privs_4)))
def lw_tbl : List Cond := k2_sels lw_privs ++ tables_1
theorem lw_privs_ok : ∀ q ∈ lw_privs, lw_okq q := by
  show ∀ q ∈ lw_privs_1 ++ (lw_privs_2 ++ (lw_privs_3 ++ (lw_privs_4))), lw_okq q
  exact List.forall_mem_append.mpr ⟨lw_r1, List.forall_mem_append.mpr ⟨lw_r2, List.forall_mem_append.mpr ⟨lw_r3, lw_r4⟩⟩⟩
end
section
def RX0 : String := "RumorTombs$History"
def TX0 : u_T := fun k => match k with
  | 0 => ("RumorTombs$History", "states", "[LRumorTombs$Village;", true)
  | _ => ("RumorTombs$History", "kept", "I", false)
def tyX0 : Nat → FieldType := fun k => match k with
  | 0 => .array (.object "RumorTombs$Village")
  | _ => .int
abbrev wsX00 : List Cond := u_ws RX0 TX0 2
theorem nmX0 : ∀ a, a < 2 → ∀ b, b < 2 → a ≠ b → (TX0 a).2.1 ≠ (TX0 b).2.1 := by decide +kernel
theorem tyX0_ok : ∀ k, k < 2 → parseFieldDescriptor (TX0 k).2.2.1 = some (tyX0 k) := by decide +kernel
abbrev cX0_init : ByteArray := prog_2_method_1_code
def yX0_init : MethodName := ⟨RX0, "<init>", "()V"⟩
abbrev cX0_prepare : ByteArray := prog_2_method_2_code
def yX0_prepare : MethodName := ⟨RX0, "prepare", "(LRumorTombs$Village;)V"⟩
abbrev cX0_keep : ByteArray := prog_2_method_3_code
def yX0_keep : MethodName := ⟨RX0, "keep", "()V"⟩
abbrev cX0_dropOldest : ByteArray := prog_2_method_4_code
def yX0_dropOldest : MethodName := ⟨RX0, "dropOldest", "()V"⟩
abbrev cX0_restore : ByteArray := prog_2_method_5_code
def yX0_restore : MethodName := ⟨RX0, "restore", "(LRumorTombs$Village;)V"⟩
def RX1 : String := "RumorTombs$Orders"
def TX1 : u_T := fun k => match k with
  | 0 => ("RumorTombs$Orders", "signs", "[C", true)
  | 1 => ("RumorTombs$Orders", "length", "I", false)
  | 2 => ("RumorTombs$Orders", "numbers", "[I", true)
  | 3 => ("RumorTombs$Orders", "done", "I", false)
  | 4 => ("RumorTombs$Orders", "faultPosition", "I", false)
  | _ => ("RumorTombs$Orders", "faultReason", "I", false)
def tyX1 : Nat → FieldType := fun k => match k with
  | 0 => .array .char
  | 1 => .int
  | 2 => .array .int
  | 3 => .int
  | 4 => .int
  | _ => .int
abbrev wsX10 : List Cond := u_ws RX1 TX1 6
theorem nmX1 : ∀ a, a < 6 → ∀ b, b < 6 → a ≠ b → (TX1 a).2.1 ≠ (TX1 b).2.1 := by decide +kernel
theorem tyX1_ok : ∀ k, k < 6 → parseFieldDescriptor (TX1 k).2.2.1 = some (tyX1 k) := by decide +kernel
abbrev cX1_init : ByteArray := prog_3_method_1_code
def yX1_init : MethodName := ⟨RX1, "<init>", "()V"⟩
abbrev cX1_append : ByteArray := prog_3_method_2_code
def yX1_append : MethodName := ⟨RX1, "append", "(C)Z"⟩
abbrev cX1_carryOut : ByteArray := prog_3_method_3_code
def yX1_carryOut : MethodName := ⟨RX1, "carryOut", "(LRumorTombs$Village;)V"⟩
abbrev cX1_setFault : ByteArray := prog_3_method_4_code
def yX1_setFault : MethodName := ⟨RX1, "setFault", "(II)V"⟩
abbrev cX1_tryOrder : ByteArray := prog_3_method_5_code
def yX1_tryOrder : MethodName := ⟨RX1, "tryOrder", "(IILRumorTombs$Village;)I"⟩
abbrev cX1_readNumbers : ByteArray := prog_3_method_6_code
def yX1_readNumbers : MethodName := ⟨RX1, "readNumbers", "(II)Z"⟩
abbrev cX1_numbersOf : ByteArray := prog_3_method_7_code
def yX1_numbersOf : MethodName := ⟨RX1, "numbersOf", "(C)I"⟩
abbrev cX1_namesExist : ByteArray := prog_3_method_8_code
def yX1_namesExist : MethodName := ⟨RX1, "namesExist", "(CLRumorTombs$Village;)Z"⟩
abbrev cX1_doOrder : ByteArray := prog_3_method_9_code
def yX1_doOrder : MethodName := ⟨RX1, "doOrder", "(CLRumorTombs$Village;)I"⟩
def RX2 : String := "RumorTombs$Village"
def TX2 : u_T := fun k => match k with
  | 0 => ("RumorTombs$Village", "villagers", "I", false)
  | 1 => ("RumorTombs$Village", "time", "I", false)
  | 2 => ("RumorTombs$Village", "watch", "I", false)
  | 3 => ("RumorTombs$Village", "tombsMade", "I", false)
  | 4 => ("RumorTombs$Village", "states", "[I", true)
  | 5 => ("RumorTombs$Village", "clocks", "[I", true)
  | 6 => ("RumorTombs$Village", "asleepSince", "[I", true)
  | 7 => ("RumorTombs$Village", "ghostsOf", "[I", true)
  | 8 => ("RumorTombs$Village", "stamps", "[I", true)
  | 9 => ("RumorTombs$Village", "kinds", "[I", true)
  | 10 => ("RumorTombs$Village", "values", "[I", true)
  | 11 => ("RumorTombs$Village", "made", "[I", true)
  | 12 => ("RumorTombs$Village", "seen", "[I", true)
  | 13 => ("RumorTombs$Village", "newestDropped", "[I", true)
  | _ => ("RumorTombs$Village", "newestTomb", "[I", true)
def tyX2 : Nat → FieldType := fun k => match k with
  | 0 => .int
  | 1 => .int
  | 2 => .int
  | 3 => .int
  | 4 => .array .int
  | 5 => .array .int
  | 6 => .array .int
  | 7 => .array .int
  | 8 => .array .int
  | 9 => .array .int
  | 10 => .array .int
  | 11 => .array .int
  | 12 => .array .int
  | 13 => .array .int
  | _ => .array .int
abbrev wsX20 : List Cond := u_ws RX2 TX2 15
theorem nmX2 : ∀ a, a < 15 → ∀ b, b < 15 → a ≠ b → (TX2 a).2.1 ≠ (TX2 b).2.1 := by decide +kernel
theorem tyX2_ok : ∀ k, k < 15 → parseFieldDescriptor (TX2 k).2.2.1 = some (tyX2 k) := by decide +kernel
abbrev cX2_init : ByteArray := prog_4_method_1_code
def yX2_init : MethodName := ⟨RX2, "<init>", "()V"⟩
abbrev cX2_copyFrom : ByteArray := prog_4_method_2_code
def yX2_copyFrom : MethodName := ⟨RX2, "copyFrom", "(LRumorTombs$Village;)V"⟩
abbrev cX2_copyRow : ByteArray := prog_4_method_3_code
def yX2_copyRow : MethodName := ⟨RX2, "copyRow", "([I[II)V"⟩
abbrev cX2_has : ByteArray := prog_4_method_4_code
def yX2_has : MethodName := ⟨RX2, "has", "(I)Z"⟩
abbrev cX2_areTwo : ByteArray := prog_4_method_5_code
def yX2_areTwo : MethodName := ⟨RX2, "areTwo", "(II)Z"⟩
abbrev cX2_isAwake : ByteArray := prog_4_method_6_code
def yX2_isAwake : MethodName := ⟨RX2, "isAwake", "(I)Z"⟩
abbrev cX2_isAsleep : ByteArray := prog_4_method_7_code
def yX2_isAsleep : MethodName := ⟨RX2, "isAsleep", "(I)Z"⟩
abbrev cX2_ticksAsleep : ByteArray := prog_4_method_8_code
def yX2_ticksAsleep : MethodName := ⟨RX2, "ticksAsleep", "(I)I"⟩
abbrev cX2_howMany : ByteArray := prog_4_method_9_code
def yX2_howMany : MethodName := ⟨RX2, "howMany", "(I)I"⟩
abbrev cX2_allGhosts : ByteArray := prog_4_method_10_code
def yX2_allGhosts : MethodName := ⟨RX2, "allGhosts", "()I"⟩
abbrev cX2_addVillager : ByteArray := prog_4_method_11_code
def yX2_addVillager : MethodName := ⟨RX2, "addVillager", "()I"⟩
abbrev cX2_fallAsleep : ByteArray := prog_4_method_12_code
def yX2_fallAsleep : MethodName := ⟨RX2, "fallAsleep", "(I)I"⟩
abbrev cX2_wakeUp : ByteArray := prog_4_method_13_code
def yX2_wakeUp : MethodName := ⟨RX2, "wakeUp", "(I)I"⟩
abbrev cX2_goAway : ByteArray := prog_4_method_14_code
def yX2_goAway : MethodName := ⟨RX2, "goAway", "(I)I"⟩
abbrev cX2_changeWatch : ByteArray := prog_4_method_15_code
def yX2_changeWatch : MethodName := ⟨RX2, "changeWatch", "(I)I"⟩
abbrev cX2_isTomb : ByteArray := prog_4_method_16_code
def yX2_isTomb : MethodName := ⟨RX2, "isTomb", "(I)Z"⟩
abbrev cX2_isRumor : ByteArray := prog_4_method_17_code
def yX2_isRumor : MethodName := ⟨RX2, "isRumor", "(I)Z"⟩
abbrev cX2_isDead : ByteArray := prog_4_method_18_code
def yX2_isDead : MethodName := ⟨RX2, "isDead", "(II)Z"⟩
abbrev cX2_author : ByteArray := prog_4_method_19_code
def yX2_author : MethodName := ⟨RX2, "author", "(I)I"⟩
abbrev cX2_rumorTopics : ByteArray := prog_4_method_20_code
def yX2_rumorTopics : MethodName := ⟨RX2, "rumorTopics", "(I)I"⟩
abbrev cX2_tombTopics : ByteArray := prog_4_method_21_code
def yX2_tombTopics : MethodName := ⟨RX2, "tombTopics", "(I)I"⟩
abbrev cX2_deadTopics : ByteArray := prog_4_method_22_code
def yX2_deadTopics : MethodName := ⟨RX2, "deadTopics", "(I)I"⟩
abbrev cX2_unlikeTopics : ByteArray := prog_4_method_23_code
def yX2_unlikeTopics : MethodName := ⟨RX2, "unlikeTopics", "(II)I"⟩
abbrev cX2_allRumors : ByteArray := prog_4_method_24_code
def yX2_allRumors : MethodName := ⟨RX2, "allRumors", "()I"⟩
abbrev cX2_allTombs : ByteArray := prog_4_method_25_code
def yX2_allTombs : MethodName := ⟨RX2, "allTombs", "()I"⟩
abbrev cX2_allDead : ByteArray := prog_4_method_26_code
def yX2_allDead : MethodName := ⟨RX2, "allDead", "()I"⟩
abbrev cX2_holdersOfNewest : ByteArray := prog_4_method_27_code
def yX2_holdersOfNewest : MethodName := ⟨RX2, "holdersOfNewest", "(I)I"⟩
abbrev cX2_makeRumor : ByteArray := prog_4_method_28_code
def yX2_makeRumor : MethodName := ⟨RX2, "makeRumor", "(IIII)I"⟩
abbrev cX2_makeTomb : ByteArray := prog_4_method_29_code
def yX2_makeTomb : MethodName := ⟨RX2, "makeTomb", "(II)I"⟩
abbrev cX2_write : ByteArray := prog_4_method_30_code
def yX2_write : MethodName := ⟨RX2, "write", "(III)V"⟩
abbrev cX2_bringTogether : ByteArray := prog_4_method_31_code
def yX2_bringTogether : MethodName := ⟨RX2, "bringTogether", "(II)I"⟩
abbrev cX2_talk : ByteArray := prog_4_method_32_code
def yX2_talk : MethodName := ⟨RX2, "talk", "(II)I"⟩
abbrev cX2_wouldPass : ByteArray := prog_4_method_33_code
def yX2_wouldPass : MethodName := ⟨RX2, "wouldPass", "(II)I"⟩
abbrev cX2_giver : ByteArray := prog_4_method_34_code
def yX2_giver : MethodName := ⟨RX2, "giver", "(III)I"⟩
abbrev cX2_mayHand : ByteArray := prog_4_method_35_code
def yX2_mayHand : MethodName := ⟨RX2, "mayHand", "(III)Z"⟩
abbrev cX2_hand : ByteArray := prog_4_method_36_code
def yX2_hand : MethodName := ⟨RX2, "hand", "(III)V"⟩
abbrev cX2_shareSight : ByteArray := prog_4_method_37_code
def yX2_shareSight : MethodName := ⟨RX2, "shareSight", "(III)V"⟩
abbrev cX2_awakeAreAlike : ByteArray := prog_4_method_38_code
def yX2_awakeAreAlike : MethodName := ⟨RX2, "awakeAreAlike", "()Z"⟩
abbrev cX2_meetInTurn : ByteArray := prog_4_method_39_code
def yX2_meetInTurn : MethodName := ⟨RX2, "meetInTurn", "()V"⟩
abbrev cX2_letGoBy : ByteArray := prog_4_method_40_code
def yX2_letGoBy : MethodName := ⟨RX2, "letGoBy", "(I)I"⟩
abbrev cX2_pass : ByteArray := prog_4_method_41_code
def yX2_pass : MethodName := ⟨RX2, "pass", "(I)I"⟩
abbrev cX2_isOver : ByteArray := prog_4_method_42_code
def yX2_isOver : MethodName := ⟨RX2, "isOver", "(II)Z"⟩
abbrev cX2_present : ByteArray := prog_4_method_43_code
def yX2_present : MethodName := ⟨RX2, "present", "()I"⟩
def RX3 : String := "RumorTombs"
def TX3 : u_T := fun k => match k with
  | 0 => ("RumorTombs", "now", "LRumorTombs$Village;", true)
  | 1 => ("RumorTombs", "trial", "LRumorTombs$Village;", true)
  | 2 => ("RumorTombs", "history", "LRumorTombs$History;", true)
  | _ => ("RumorTombs", "orders", "LRumorTombs$Orders;", true)
def tyX3 : Nat → FieldType := fun k => match k with
  | 0 => .object "RumorTombs$Village"
  | 1 => .object "RumorTombs$Village"
  | 2 => .object "RumorTombs$History"
  | _ => .object "RumorTombs$Orders"
abbrev wsX30 : List Cond := u_ws RX3 TX3 4
theorem nmX3 : ∀ a, a < 4 → ∀ b, b < 4 → a ≠ b → (TX3 a).2.1 ≠ (TX3 b).2.1 := by decide +kernel
theorem tyX3_ok : ∀ k, k < 4 → parseFieldDescriptor (TX3 k).2.2.1 = some (tyX3 k) := by decide +kernel
abbrev cX3_init : ByteArray := prog_1_method_1_code
def yX3_init : MethodName := ⟨RX3, "<init>", "()V"⟩
abbrev cX3_villager : ByteArray := prog_1_method_2_code
def yX3_villager : MethodName := ⟨RX3, "villager", "()I"⟩
abbrev cX3_sleep : ByteArray := prog_1_method_3_code
def yX3_sleep : MethodName := ⟨RX3, "sleep", "(I)I"⟩
abbrev cX3_wake : ByteArray := prog_1_method_4_code
def yX3_wake : MethodName := ⟨RX3, "wake", "(I)I"⟩
abbrev cX3_leave : ByteArray := prog_1_method_5_code
def yX3_leave : MethodName := ⟨RX3, "leave", "(I)I"⟩
abbrev cX3_watch : ByteArray := prog_1_method_6_code
def yX3_watch : MethodName := ⟨RX3, "watch", "(I)I"⟩
abbrev cX3_villagerOf : ByteArray := prog_1_method_7_code
def yX3_villagerOf : MethodName := ⟨RX3, "villagerOf", "(II)I"⟩
abbrev cX3_tell : ByteArray := prog_1_method_8_code
def yX3_tell : MethodName := ⟨RX3, "tell", "(IIII)I"⟩
abbrev cX3_bury : ByteArray := prog_1_method_9_code
def yX3_bury : MethodName := ⟨RX3, "bury", "(II)I"⟩
abbrev cX3_meet : ByteArray := prog_1_method_10_code
def yX3_meet : MethodName := ⟨RX3, "meet", "(II)I"⟩
abbrev cX3_entryOf : ByteArray := prog_1_method_11_code
def yX3_entryOf : MethodName := ⟨RX3, "entryOf", "(III)I"⟩
abbrev cX3_tick : ByteArray := prog_1_method_12_code
def yX3_tick : MethodName := ⟨RX3, "tick", "(I)I"⟩
abbrev cX3_newest : ByteArray := prog_1_method_13_code
def yX3_newest : MethodName := ⟨RX3, "newest", "(I)I"⟩
abbrev cX3_unlike : ByteArray := prog_1_method_14_code
def yX3_unlike : MethodName := ⟨RX3, "unlike", "(II)I"⟩
abbrev cX3_dead : ByteArray := prog_1_method_15_code
def yX3_dead : MethodName := ⟨RX3, "dead", "(I)I"⟩
abbrev cX3_ghosts : ByteArray := prog_1_method_16_code
def yX3_ghosts : MethodName := ⟨RX3, "ghosts", "(III)I"⟩
abbrev cX3_bestMeeting : ByteArray := prog_1_method_17_code
def yX3_bestMeeting : MethodName := ⟨RX3, "bestMeeting", "(I)I"⟩
abbrev cX3_rounds : ByteArray := prog_1_method_18_code
def yX3_rounds : MethodName := ⟨RX3, "rounds", "()I"⟩
abbrev cX3_count : ByteArray := prog_1_method_19_code
def yX3_count : MethodName := ⟨RX3, "count", "(I)I"⟩
abbrev cX3_undo : ByteArray := prog_1_method_20_code
def yX3_undo : MethodName := ⟨RX3, "undo", "()I"⟩
abbrev cX3_type : ByteArray := prog_1_method_21_code
def yX3_type : MethodName := ⟨RX3, "type", "(I)I"⟩
abbrev cX3_clearText : ByteArray := prog_1_method_22_code
def yX3_clearText : MethodName := ⟨RX3, "clearText", "()I"⟩
abbrev cX3_fault : ByteArray := prog_1_method_23_code
def yX3_fault : MethodName := ⟨RX3, "fault", "(I)I"⟩
abbrev cX3_play : ByteArray := prog_1_method_24_code
def yX3_play : MethodName := ⟨RX3, "play", "()I"⟩
abbrev cX3_recorded : ByteArray := prog_1_method_25_code
def yX3_recorded : MethodName := ⟨RX3, "recorded", "(I)I"⟩
abbrev cX3_isTopic : ByteArray := prog_1_method_26_code
def yX3_isTopic : MethodName := ⟨RX3, "isTopic", "(I)Z"⟩
abbrev cX3_place : ByteArray := prog_1_method_27_code
def yX3_place : MethodName := ⟨RX3, "place", "(II)I"⟩
def RX4 : String := "RumorTombsModel"
def TX4 : u_T := fun k => match k with
  | 0 => ("RumorTombsModel", "s", "[I", true)
  | 1 => ("RumorTombsModel", "was", "[I", true)
  | 2 => ("RumorTombsModel", "begun", "[I", true)
  | 3 => ("RumorTombsModel", "aside", "[I", true)
  | 4 => ("RumorTombsModel", "states", "I", false)
  | 5 => ("RumorTombsModel", "text", "[C", true)
  | 6 => ("RumorTombsModel", "typed", "I", false)
  | 7 => ("RumorTombsModel", "at", "I", false)
  | 8 => ("RumorTombsModel", "reason", "I", false)
  | _ => ("RumorTombsModel", "got", "[I", true)
def tyX4 : Nat → FieldType := fun k => match k with
  | 0 => .array .int
  | 1 => .array .int
  | 2 => .array .int
  | 3 => .array .int
  | 4 => .int
  | 5 => .array .char
  | 6 => .int
  | 7 => .int
  | 8 => .int
  | _ => .array .int
abbrev wsX40 : List Cond := u_ws RX4 TX4 10
theorem nmX4 : ∀ a, a < 10 → ∀ b, b < 10 → a ≠ b → (TX4 a).2.1 ≠ (TX4 b).2.1 := by decide +kernel
theorem tyX4_ok : ∀ k, k < 10 → parseFieldDescriptor (TX4 k).2.2.1 = some (tyX4 k) := by decide +kernel
abbrev cX4_init : ByteArray := prog_6_method_1_code
def yX4_init : MethodName := ⟨RX4, "<init>", "()V"⟩
abbrev cX4_in : ByteArray := prog_6_method_2_code
def yX4_in : MethodName := ⟨RX4, "in", "(III)Z"⟩
abbrev cX4_vi : ByteArray := prog_6_method_3_code
def yX4_vi : MethodName := ⟨RX4, "vi", "(II)I"⟩
abbrev cX4_place : ByteArray := prog_6_method_4_code
def yX4_place : MethodName := ⟨RX4, "place", "(II)I"⟩
abbrev cX4_en : ByteArray := prog_6_method_5_code
def yX4_en : MethodName := ⟨RX4, "en", "(III)I"⟩
abbrev cX4_isVillager : ByteArray := prog_6_method_6_code
def yX4_isVillager : MethodName := ⟨RX4, "isVillager", "(I)Z"⟩
abbrev cX4_isTopic : ByteArray := prog_6_method_7_code
def yX4_isTopic : MethodName := ⟨RX4, "isTopic", "(I)Z"⟩
abbrev cX4_isAwake : ByteArray := prog_6_method_8_code
def yX4_isAwake : MethodName := ⟨RX4, "isAwake", "(I)Z"⟩
abbrev cX4_isGone : ByteArray := prog_6_method_9_code
def yX4_isGone : MethodName := ⟨RX4, "isGone", "(I)Z"⟩
abbrev cX4_many : ByteArray := prog_6_method_10_code
def yX4_many : MethodName := ⟨RX4, "many", "(I)I"⟩
abbrev cX4_keeps : ByteArray := prog_6_method_11_code
def yX4_keeps : MethodName := ⟨RX4, "keeps", "()V"⟩
abbrev cX4_acted : ByteArray := prog_6_method_12_code
def yX4_acted : MethodName := ⟨RX4, "acted", "(I)I"⟩
abbrev cX4_puts : ByteArray := prog_6_method_13_code
def yX4_puts : MethodName := ⟨RX4, "puts", "()V"⟩
abbrev cX4_restores : ByteArray := prog_6_method_14_code
def yX4_restores : MethodName := ⟨RX4, "restores", "()V"⟩
abbrev cX4_villager : ByteArray := prog_6_method_15_code
def yX4_villager : MethodName := ⟨RX4, "villager", "()I"⟩
abbrev cX4_sleeps : ByteArray := prog_6_method_16_code
def yX4_sleeps : MethodName := ⟨RX4, "sleeps", "(I)I"⟩
abbrev cX4_sleep : ByteArray := prog_6_method_17_code
def yX4_sleep : MethodName := ⟨RX4, "sleep", "(I)I"⟩
abbrev cX4_wakes : ByteArray := prog_6_method_18_code
def yX4_wakes : MethodName := ⟨RX4, "wakes", "(I)I"⟩
abbrev cX4_wake : ByteArray := prog_6_method_19_code
def yX4_wake : MethodName := ⟨RX4, "wake", "(I)I"⟩
abbrev cX4_leave : ByteArray := prog_6_method_20_code
def yX4_leave : MethodName := ⟨RX4, "leave", "(I)I"⟩
abbrev cX4_watch : ByteArray := prog_6_method_21_code
def yX4_watch : MethodName := ⟨RX4, "watch", "(I)I"⟩
abbrev cX4_topics : ByteArray := prog_6_method_22_code
def yX4_topics : MethodName := ⟨RX4, "topics", "(II)I"⟩
abbrev cX4_villagerOf : ByteArray := prog_6_method_23_code
def yX4_villagerOf : MethodName := ⟨RX4, "villagerOf", "(II)I"⟩
abbrev cX4_isNewer : ByteArray := prog_6_method_24_code
def yX4_isNewer : MethodName := ⟨RX4, "isNewer", "(IIII)Z"⟩
abbrev cX4_hasNewer : ByteArray := prog_6_method_25_code
def yX4_hasNewer : MethodName := ⟨RX4, "hasNewer", "(III)Z"⟩
abbrev cX4_areSame : ByteArray := prog_6_method_26_code
def yX4_areSame : MethodName := ⟨RX4, "areSame", "(III)Z"⟩
abbrev cX4_makes : ByteArray := prog_6_method_27_code
def yX4_makes : MethodName := ⟨RX4, "makes", "(IIIII)I"⟩
abbrev cX4_tells : ByteArray := prog_6_method_28_code
def yX4_tells : MethodName := ⟨RX4, "tells", "(IIII)I"⟩
abbrev cX4_tell : ByteArray := prog_6_method_29_code
def yX4_tell : MethodName := ⟨RX4, "tell", "(IIII)I"⟩
abbrev cX4_buries : ByteArray := prog_6_method_30_code
def yX4_buries : MethodName := ⟨RX4, "buries", "(II)I"⟩
abbrev cX4_bury : ByteArray := prog_6_method_31_code
def yX4_bury : MethodName := ⟨RX4, "bury", "(II)I"⟩
abbrev cX4_mayPass : ByteArray := prog_6_method_32_code
def yX4_mayPass : MethodName := ⟨RX4, "mayPass", "(III)Z"⟩
abbrev cX4_isGhost : ByteArray := prog_6_method_33_code
def yX4_isGhost : MethodName := ⟨RX4, "isGhost", "(III)Z"⟩
abbrev cX4_passes : ByteArray := prog_6_method_34_code
def yX4_passes : MethodName := ⟨RX4, "passes", "(III)I"⟩
abbrev cX4_meets : ByteArray := prog_6_method_35_code
def yX4_meets : MethodName := ⟨RX4, "meets", "(II)I"⟩
abbrev cX4_meetsOne : ByteArray := prog_6_method_36_code
def yX4_meetsOne : MethodName := ⟨RX4, "meetsOne", "(II)I"⟩
abbrev cX4_meet : ByteArray := prog_6_method_37_code
def yX4_meet : MethodName := ⟨RX4, "meet", "(II)I"⟩
abbrev cX4_isDead : ByteArray := prog_6_method_38_code
def yX4_isDead : MethodName := ⟨RX4, "isDead", "(II)Z"⟩
abbrev cX4_entryOf : ByteArray := prog_6_method_39_code
def yX4_entryOf : MethodName := ⟨RX4, "entryOf", "(III)I"⟩
abbrev cX4_drops : ByteArray := prog_6_method_40_code
def yX4_drops : MethodName := ⟨RX4, "drops", "(III)I"⟩
abbrev cX4_tickOne : ByteArray := prog_6_method_41_code
def yX4_tickOne : MethodName := ⟨RX4, "tickOne", "()I"⟩
abbrev cX4_ticks : ByteArray := prog_6_method_42_code
def yX4_ticks : MethodName := ⟨RX4, "ticks", "(I)I"⟩
abbrev cX4_tick : ByteArray := prog_6_method_43_code
def yX4_tick : MethodName := ⟨RX4, "tick", "(I)I"⟩
abbrev cX4_newest : ByteArray := prog_6_method_44_code
def yX4_newest : MethodName := ⟨RX4, "newest", "(I)I"⟩
abbrev cX4_unlike : ByteArray := prog_6_method_45_code
def yX4_unlike : MethodName := ⟨RX4, "unlike", "(II)I"⟩
abbrev cX4_dead : ByteArray := prog_6_method_46_code
def yX4_dead : MethodName := ⟨RX4, "dead", "(I)I"⟩
abbrev cX4_ghosts : ByteArray := prog_6_method_47_code
def yX4_ghosts : MethodName := ⟨RX4, "ghosts", "(III)I"⟩
abbrev cX4_bestMeeting : ByteArray := prog_6_method_48_code
def yX4_bestMeeting : MethodName := ⟨RX4, "bestMeeting", "(I)I"⟩
abbrev cX4_awakeBehind : ByteArray := prog_6_method_49_code
def yX4_awakeBehind : MethodName := ⟨RX4, "awakeBehind", "(I)I"⟩
abbrev cX4_areAllSame : ByteArray := prog_6_method_50_code
def yX4_areAllSame : MethodName := ⟨RX4, "areAllSame", "()Z"⟩
abbrev cX4_round : ByteArray := prog_6_method_51_code
def yX4_round : MethodName := ⟨RX4, "round", "()V"⟩
abbrev cX4_rounds : ByteArray := prog_6_method_52_code
def yX4_rounds : MethodName := ⟨RX4, "rounds", "()I"⟩
abbrev cX4_entries : ByteArray := prog_6_method_53_code
def yX4_entries : MethodName := ⟨RX4, "entries", "(I)I"⟩
abbrev cX4_count : ByteArray := prog_6_method_54_code
def yX4_count : MethodName := ⟨RX4, "count", "(I)I"⟩
abbrev cX4_undo : ByteArray := prog_6_method_55_code
def yX4_undo : MethodName := ⟨RX4, "undo", "()I"⟩
abbrev cX4_type : ByteArray := prog_6_method_56_code
def yX4_type : MethodName := ⟨RX4, "type", "(I)I"⟩
abbrev cX4_clearText : ByteArray := prog_6_method_57_code
def yX4_clearText : MethodName := ⟨RX4, "clearText", "()I"⟩
abbrev cX4_has : ByteArray := prog_6_method_58_code
def yX4_has : MethodName := ⟨RX4, "has", "(C)Z"⟩
abbrev cX4_number : ByteArray := prog_6_method_59_code
def yX4_number : MethodName := ⟨RX4, "number", "(I)Z"⟩
abbrev cX4_readsForm : ByteArray := prog_6_method_60_code
def yX4_readsForm : MethodName := ⟨RX4, "readsForm", "(C)Z"⟩
abbrev cX4_isThere : ByteArray := prog_6_method_61_code
def yX4_isThere : MethodName := ⟨RX4, "isThere", "(C)Z"⟩
abbrev cX4_does : ByteArray := prog_6_method_62_code
def yX4_does : MethodName := ⟨RX4, "does", "(C)I"⟩
abbrev cX4_doesNext : ByteArray := prog_6_method_63_code
def yX4_doesNext : MethodName := ⟨RX4, "doesNext", "()I"⟩
abbrev cX4_faulty : ByteArray := prog_6_method_64_code
def yX4_faulty : MethodName := ⟨RX4, "faulty", "()I"⟩
abbrev cX4_fault : ByteArray := prog_6_method_65_code
def yX4_fault : MethodName := ⟨RX4, "fault", "(I)I"⟩
abbrev cX4_play : ByteArray := prog_6_method_66_code
def yX4_play : MethodName := ⟨RX4, "play", "()I"⟩
def RJ6 : String := "java/lang/Integer"
def TJ6 : u_T := fun k => match k with
  | _ => ("", "", "", false)
def tyJ6 : Nat → FieldType := fun k => match k with
  | _ => .int
theorem nmJ6 : ∀ a, a < 0 → ∀ b, b < 0 → a ≠ b → (TJ6 a).2.1 ≠ (TJ6 b).2.1 := by decide +kernel
theorem tyJ6_ok : ∀ k, k < 0 → parseFieldDescriptor (TJ6 k).2.2.1 = some (tyJ6 k) := by decide +kernel
abbrev cJ6_bitCount_0f7a4 : ByteArray := prog_7_method_49_code
def yJ6_bitCount_0f7a4 : MethodName := ⟨RJ6, "bitCount", "(I)I"⟩
def RJ9 : String := "java/lang/Math"
def TJ9 : u_T := fun k => match k with
  | _ => ("", "", "", false)
def tyJ9 : Nat → FieldType := fun k => match k with
  | _ => .int
theorem nmJ9 : ∀ a, a < 0 → ∀ b, b < 0 → a ≠ b → (TJ9 a).2.1 ≠ (TJ9 b).2.1 := by decide +kernel
theorem tyJ9_ok : ∀ k, k < 0 → parseFieldDescriptor (TJ9 k).2.2.1 = some (tyJ9 k) := by decide +kernel
abbrev cJ9_max_7cf53 : ByteArray := prog_8_method_65_code
def yJ9_max_7cf53 : MethodName := ⟨RJ9, "max", "(II)I"⟩
def RJ10 : String := "java/lang/System"
def TJ10 : u_T := fun k => match k with
  | _ => ("", "", "", false)
def tyJ10 : Nat → FieldType := fun k => match k with
  | _ => .int
theorem nmJ10 : ∀ a, a < 0 → ∀ b, b < 0 → a ≠ b → (TJ10 a).2.1 ≠ (TJ10 b).2.1 := by decide +kernel
theorem tyJ10_ok : ∀ k, k < 0 → parseFieldDescriptor (TJ10 k).2.2.1 = some (tyJ10 k) := by decide +kernel
def RL : String := "RumorTombsLaw"
abbrev cL_law : ByteArray := code
def yL_law : MethodName := ⟨RL, "law", "([I)Z"⟩
abbrev vwCl : List vw_C := [(RX0, TX0, 2), (RX1, TX1, 6), (RX2, TX2, 15), (RX3, TX3, 4), (RX4, TX4, 10)]
end
section
theorem dX0_init_0 : decode cX0_init 0 = .ok (.aload_n 0, 1) := by decide +kernel
theorem dX0_init_1 : decode cX0_init 1 = .ok (.invokespecial 3, 3) := by decide +kernel
theorem dX0_init_4 : decode cX0_init 4 = .ok (.aload_n 0, 1) := by decide +kernel
theorem dX0_init_5 : decode cX0_init 5 = .ok (.iconst 5, 1) := by decide +kernel
theorem dX0_init_6 : decode cX0_init 6 = .ok (.anewarray 9, 3) := by decide +kernel
theorem dX0_init_9 : decode cX0_init 9 = .ok (.putfield 11, 3) := by decide +kernel
theorem dX0_init_12 : decode cX0_init 12 = .ok (.aload_n 0, 1) := by decide +kernel
theorem dX0_init_13 : decode cX0_init 13 = .ok (.iconst 0, 1) := by decide +kernel
theorem dX0_init_14 : decode cX0_init 14 = .ok (.putfield 17, 3) := by decide +kernel
theorem dX0_init_17 : decode cX0_init 17 = .ok (.iconst 0, 1) := by decide +kernel
theorem dX0_init_18 : decode cX0_init 18 = .ok (.istore_n 1, 1) := by decide +kernel
theorem dX0_init_19 : decode cX0_init 19 = .ok (.iload_n 1, 1) := by decide +kernel
theorem dX0_init_20 : decode cX0_init 20 = .ok (.aload_n 0, 1) := by decide +kernel
theorem dX0_init_21 : decode cX0_init 21 = .ok (.getfield 11, 3) := by decide +kernel
theorem dX0_init_24 : decode cX0_init 24 = .ok (.arraylength, 1) := by decide +kernel
theorem dX0_init_25 : decode cX0_init 25 = .ok (.if_icmp .ge 22, 3) := by decide +kernel
theorem dX0_init_28 : decode cX0_init 28 = .ok (.aload_n 0, 1) := by decide +kernel
theorem dX0_init_29 : decode cX0_init 29 = .ok (.getfield 11, 3) := by decide +kernel
theorem dX0_init_32 : decode cX0_init 32 = .ok (.iload_n 1, 1) := by decide +kernel
theorem dX0_init_33 : decode cX0_init 33 = .ok (.new 9, 3) := by decide +kernel
theorem dX0_init_36 : decode cX0_init 36 = .ok (.dup, 1) := by decide +kernel
theorem dX0_init_37 : decode cX0_init 37 = .ok (.invokespecial 21, 3) := by decide +kernel
theorem dX0_init_40 : decode cX0_init 40 = .ok (.aastore, 1) := by decide +kernel
theorem dX0_init_41 : decode cX0_init 41 = .ok (.iinc 1 1, 3) := by decide +kernel
theorem dX0_init_44 : decode cX0_init 44 = .ok (.goto (-25), 3) := by decide +kernel
theorem dX0_init_47 : decode cX0_init 47 = .ok (.return_, 1) := by decide +kernel
theorem dX0_prepare_0 : decode cX0_prepare 0 = .ok (.aload_n 0, 1) := by decide +kernel
theorem dX0_prepare_1 : decode cX0_prepare 1 = .ok (.getfield 11, 3) := by decide +kernel
theorem dX0_prepare_4 : decode cX0_prepare 4 = .ok (.aload_n 0, 1) := by decide +kernel
theorem dX0_prepare_5 : decode cX0_prepare 5 = .ok (.getfield 17, 3) := by decide +kernel
theorem dX0_prepare_8 : decode cX0_prepare 8 = .ok (.aaload, 1) := by decide +kernel
theorem dX0_prepare_9 : decode cX0_prepare 9 = .ok (.aload_n 1, 1) := by decide +kernel
theorem dX0_prepare_10 : decode cX0_prepare 10 = .ok (.invokevirtual 22, 3) := by decide +kernel
theorem dX0_prepare_13 : decode cX0_prepare 13 = .ok (.return_, 1) := by decide +kernel
theorem dX0_keep_0 : decode cX0_keep 0 = .ok (.aload_n 0, 1) := by decide +kernel
theorem dX0_keep_1 : decode cX0_keep 1 = .ok (.dup, 1) := by decide +kernel
theorem dX0_keep_2 : decode cX0_keep 2 = .ok (.getfield 17, 3) := by decide +kernel
theorem dX0_keep_5 : decode cX0_keep 5 = .ok (.iconst 1, 1) := by decide +kernel
theorem dX0_keep_6 : decode cX0_keep 6 = .ok (.iadd, 1) := by decide +kernel
theorem dX0_keep_7 : decode cX0_keep 7 = .ok (.putfield 17, 3) := by decide +kernel
theorem dX0_keep_10 : decode cX0_keep 10 = .ok (.aload_n 0, 1) := by decide +kernel
theorem dX0_keep_11 : decode cX0_keep 11 = .ok (.getfield 17, 3) := by decide +kernel
theorem dX0_keep_14 : decode cX0_keep 14 = .ok (.iconst 4, 1) := by decide +kernel
theorem dX0_keep_15 : decode cX0_keep 15 = .ok (.if_icmp .le 7, 3) := by decide +kernel
theorem dX0_keep_18 : decode cX0_keep 18 = .ok (.aload_n 0, 1) := by decide +kernel
theorem dX0_keep_19 : decode cX0_keep 19 = .ok (.invokevirtual 26, 3) := by decide +kernel
theorem dX0_keep_22 : decode cX0_keep 22 = .ok (.return_, 1) := by decide +kernel
theorem dX0_dropOldest_0 : decode cX0_dropOldest 0 = .ok (.aload_n 0, 1) := by decide +kernel
theorem dX0_dropOldest_1 : decode cX0_dropOldest 1 = .ok (.getfield 11, 3) := by decide +kernel
theorem dX0_dropOldest_4 : decode cX0_dropOldest 4 = .ok (.iconst 0, 1) := by decide +kernel
theorem dX0_dropOldest_5 : decode cX0_dropOldest 5 = .ok (.aaload, 1) := by decide +kernel
theorem dX0_dropOldest_6 : decode cX0_dropOldest 6 = .ok (.astore_n 1, 1) := by decide +kernel
theorem dX0_dropOldest_7 : decode cX0_dropOldest 7 = .ok (.iconst 0, 1) := by decide +kernel
theorem dX0_dropOldest_8 : decode cX0_dropOldest 8 = .ok (.istore_n 2, 1) := by decide +kernel
theorem dX0_dropOldest_9 : decode cX0_dropOldest 9 = .ok (.iload_n 2, 1) := by decide +kernel
theorem dX0_dropOldest_10 : decode cX0_dropOldest 10 = .ok (.iconst 4, 1) := by decide +kernel
theorem dX0_dropOldest_11 : decode cX0_dropOldest 11 = .ok (.if_icmp .ge 23, 3) := by decide +kernel
theorem dX0_dropOldest_14 : decode cX0_dropOldest 14 = .ok (.aload_n 0, 1) := by decide +kernel
theorem dX0_dropOldest_15 : decode cX0_dropOldest 15 = .ok (.getfield 11, 3) := by decide +kernel
theorem dX0_dropOldest_18 : decode cX0_dropOldest 18 = .ok (.iload_n 2, 1) := by decide +kernel
theorem dX0_dropOldest_19 : decode cX0_dropOldest 19 = .ok (.aload_n 0, 1) := by decide +kernel
theorem dX0_dropOldest_20 : decode cX0_dropOldest 20 = .ok (.getfield 11, 3) := by decide +kernel
theorem dX0_dropOldest_23 : decode cX0_dropOldest 23 = .ok (.iload_n 2, 1) := by decide +kernel
theorem dX0_dropOldest_24 : decode cX0_dropOldest 24 = .ok (.iconst 1, 1) := by decide +kernel
theorem dX0_dropOldest_25 : decode cX0_dropOldest 25 = .ok (.iadd, 1) := by decide +kernel
theorem dX0_dropOldest_26 : decode cX0_dropOldest 26 = .ok (.aaload, 1) := by decide +kernel
theorem dX0_dropOldest_27 : decode cX0_dropOldest 27 = .ok (.aastore, 1) := by decide +kernel
theorem dX0_dropOldest_28 : decode cX0_dropOldest 28 = .ok (.iinc 2 1, 3) := by decide +kernel
theorem dX0_dropOldest_31 : decode cX0_dropOldest 31 = .ok (.goto (-22), 3) := by decide +kernel
theorem dX0_dropOldest_34 : decode cX0_dropOldest 34 = .ok (.aload_n 0, 1) := by decide +kernel
theorem dX0_dropOldest_35 : decode cX0_dropOldest 35 = .ok (.getfield 11, 3) := by decide +kernel
theorem dX0_dropOldest_38 : decode cX0_dropOldest 38 = .ok (.iconst 4, 1) := by decide +kernel
theorem dX0_dropOldest_39 : decode cX0_dropOldest 39 = .ok (.aload_n 1, 1) := by decide +kernel
theorem dX0_dropOldest_40 : decode cX0_dropOldest 40 = .ok (.aastore, 1) := by decide +kernel
theorem dX0_dropOldest_41 : decode cX0_dropOldest 41 = .ok (.aload_n 0, 1) := by decide +kernel
theorem dX0_dropOldest_42 : decode cX0_dropOldest 42 = .ok (.dup, 1) := by decide +kernel
theorem dX0_dropOldest_43 : decode cX0_dropOldest 43 = .ok (.getfield 17, 3) := by decide +kernel
theorem dX0_dropOldest_46 : decode cX0_dropOldest 46 = .ok (.iconst 1, 1) := by decide +kernel
theorem dX0_dropOldest_47 : decode cX0_dropOldest 47 = .ok (.isub, 1) := by decide +kernel
theorem dX0_dropOldest_48 : decode cX0_dropOldest 48 = .ok (.putfield 17, 3) := by decide +kernel
theorem dX0_dropOldest_51 : decode cX0_dropOldest 51 = .ok (.return_, 1) := by decide +kernel
theorem dX0_restore_0 : decode cX0_restore 0 = .ok (.aload_n 0, 1) := by decide +kernel
theorem dX0_restore_1 : decode cX0_restore 1 = .ok (.dup, 1) := by decide +kernel
theorem dX0_restore_2 : decode cX0_restore 2 = .ok (.getfield 17, 3) := by decide +kernel
theorem dX0_restore_5 : decode cX0_restore 5 = .ok (.iconst 1, 1) := by decide +kernel
theorem dX0_restore_6 : decode cX0_restore 6 = .ok (.isub, 1) := by decide +kernel
theorem dX0_restore_7 : decode cX0_restore 7 = .ok (.putfield 17, 3) := by decide +kernel
theorem dX0_restore_10 : decode cX0_restore 10 = .ok (.aload_n 1, 1) := by decide +kernel
theorem dX0_restore_11 : decode cX0_restore 11 = .ok (.aload_n 0, 1) := by decide +kernel
theorem dX0_restore_12 : decode cX0_restore 12 = .ok (.getfield 11, 3) := by decide +kernel
theorem dX0_restore_15 : decode cX0_restore 15 = .ok (.aload_n 0, 1) := by decide +kernel
theorem dX0_restore_16 : decode cX0_restore 16 = .ok (.getfield 17, 3) := by decide +kernel
theorem dX0_restore_19 : decode cX0_restore 19 = .ok (.aaload, 1) := by decide +kernel
theorem dX0_restore_20 : decode cX0_restore 20 = .ok (.invokevirtual 22, 3) := by decide +kernel
theorem dX0_restore_23 : decode cX0_restore 23 = .ok (.return_, 1) := by decide +kernel
theorem dX1_init_0 : decode cX1_init 0 = .ok (.aload_n 0, 1) := by decide +kernel
theorem dX1_init_1 : decode cX1_init 1 = .ok (.invokespecial 3, 3) := by decide +kernel
theorem dX1_init_4 : decode cX1_init 4 = .ok (.aload_n 0, 1) := by decide +kernel
theorem dX1_init_5 : decode cX1_init 5 = .ok (.bipush 60, 2) := by decide +kernel
theorem dX1_init_7 : decode cX1_init 7 = .ok (.newarray .char, 2) := by decide +kernel
theorem dX1_init_9 : decode cX1_init 9 = .ok (.putfield 9, 3) := by decide +kernel
theorem dX1_init_12 : decode cX1_init 12 = .ok (.aload_n 0, 1) := by decide +kernel
theorem dX1_init_13 : decode cX1_init 13 = .ok (.iconst 0, 1) := by decide +kernel
theorem dX1_init_14 : decode cX1_init 14 = .ok (.putfield 15, 3) := by decide +kernel
theorem dX1_init_17 : decode cX1_init 17 = .ok (.aload_n 0, 1) := by decide +kernel
theorem dX1_init_18 : decode cX1_init 18 = .ok (.iconst 3, 1) := by decide +kernel
theorem dX1_init_19 : decode cX1_init 19 = .ok (.newarray .int, 2) := by decide +kernel
theorem dX1_init_21 : decode cX1_init 21 = .ok (.putfield 19, 3) := by decide +kernel
theorem dX1_init_24 : decode cX1_init 24 = .ok (.aload_n 0, 1) := by decide +kernel
theorem dX1_init_25 : decode cX1_init 25 = .ok (.iconst 0, 1) := by decide +kernel
theorem dX1_init_26 : decode cX1_init 26 = .ok (.putfield 23, 3) := by decide +kernel
theorem dX1_init_29 : decode cX1_init 29 = .ok (.aload_n 0, 1) := by decide +kernel
theorem dX1_init_30 : decode cX1_init 30 = .ok (.iconst 0, 1) := by decide +kernel
theorem dX1_init_31 : decode cX1_init 31 = .ok (.putfield 26, 3) := by decide +kernel
theorem dX1_init_34 : decode cX1_init 34 = .ok (.aload_n 0, 1) := by decide +kernel
theorem dX1_init_35 : decode cX1_init 35 = .ok (.iconst 0, 1) := by decide +kernel
theorem dX1_init_36 : decode cX1_init 36 = .ok (.putfield 29, 3) := by decide +kernel
theorem dX1_init_39 : decode cX1_init 39 = .ok (.return_, 1) := by decide +kernel
theorem dX1_append_0 : decode cX1_append 0 = .ok (.aload_n 0, 1) := by decide +kernel
theorem dX1_append_1 : decode cX1_append 1 = .ok (.getfield 15, 3) := by decide +kernel
theorem dX1_append_4 : decode cX1_append 4 = .ok (.bipush 60, 2) := by decide +kernel
theorem dX1_append_6 : decode cX1_append 6 = .ok (.if_icmp .lt 5, 3) := by decide +kernel
theorem dX1_append_9 : decode cX1_append 9 = .ok (.iconst 0, 1) := by decide +kernel
theorem dX1_append_10 : decode cX1_append 10 = .ok (.ireturn, 1) := by decide +kernel
theorem dX1_append_11 : decode cX1_append 11 = .ok (.aload_n 0, 1) := by decide +kernel
theorem dX1_append_12 : decode cX1_append 12 = .ok (.getfield 9, 3) := by decide +kernel
theorem dX1_append_15 : decode cX1_append 15 = .ok (.aload_n 0, 1) := by decide +kernel
theorem dX1_append_16 : decode cX1_append 16 = .ok (.getfield 15, 3) := by decide +kernel
theorem dX1_append_19 : decode cX1_append 19 = .ok (.iload_n 1, 1) := by decide +kernel
theorem dX1_append_20 : decode cX1_append 20 = .ok (.castore, 1) := by decide +kernel
theorem dX1_append_21 : decode cX1_append 21 = .ok (.aload_n 0, 1) := by decide +kernel
theorem dX1_append_22 : decode cX1_append 22 = .ok (.dup, 1) := by decide +kernel
theorem dX1_append_23 : decode cX1_append 23 = .ok (.getfield 15, 3) := by decide +kernel
theorem dX1_append_26 : decode cX1_append 26 = .ok (.iconst 1, 1) := by decide +kernel
theorem dX1_append_27 : decode cX1_append 27 = .ok (.iadd, 1) := by decide +kernel
theorem dX1_append_28 : decode cX1_append 28 = .ok (.putfield 15, 3) := by decide +kernel
theorem dX1_append_31 : decode cX1_append 31 = .ok (.iconst 1, 1) := by decide +kernel
theorem dX1_append_32 : decode cX1_append 32 = .ok (.ireturn, 1) := by decide +kernel
theorem dX1_carryOut_0 : decode cX1_carryOut 0 = .ok (.aload_n 0, 1) := by decide +kernel
theorem dX1_carryOut_1 : decode cX1_carryOut 1 = .ok (.iconst 0, 1) := by decide +kernel
theorem dX1_carryOut_2 : decode cX1_carryOut 2 = .ok (.putfield 23, 3) := by decide +kernel
theorem dX1_carryOut_5 : decode cX1_carryOut 5 = .ok (.iconst 0, 1) := by decide +kernel
theorem dX1_carryOut_6 : decode cX1_carryOut 6 = .ok (.istore_n 2, 1) := by decide +kernel
theorem dX1_carryOut_7 : decode cX1_carryOut 7 = .ok (.iconst 0, 1) := by decide +kernel
theorem dX1_carryOut_8 : decode cX1_carryOut 8 = .ok (.istore_n 3, 1) := by decide +kernel
theorem dX1_carryOut_9 : decode cX1_carryOut 9 = .ok (.iload_n 3, 1) := by decide +kernel
theorem dX1_carryOut_10 : decode cX1_carryOut 10 = .ok (.aload_n 0, 1) := by decide +kernel
theorem dX1_carryOut_11 : decode cX1_carryOut 11 = .ok (.getfield 15, 3) := by decide +kernel
theorem dX1_carryOut_14 : decode cX1_carryOut 14 = .ok (.if_icmp .ge 54, 3) := by decide +kernel
theorem dX1_carryOut_17 : decode cX1_carryOut 17 = .ok (.aload_n 0, 1) := by decide +kernel
theorem dX1_carryOut_18 : decode cX1_carryOut 18 = .ok (.getfield 9, 3) := by decide +kernel
theorem dX1_carryOut_21 : decode cX1_carryOut 21 = .ok (.iload_n 3, 1) := by decide +kernel
theorem dX1_carryOut_22 : decode cX1_carryOut 22 = .ok (.caload, 1) := by decide +kernel
theorem dX1_carryOut_23 : decode cX1_carryOut 23 = .ok (.bipush 59, 2) := by decide +kernel
theorem dX1_carryOut_25 : decode cX1_carryOut 25 = .ok (.if_icmp .ne 37, 3) := by decide +kernel
theorem dX1_carryOut_28 : decode cX1_carryOut 28 = .ok (.aload_n 0, 1) := by decide +kernel
theorem dX1_carryOut_29 : decode cX1_carryOut 29 = .ok (.iload_n 2, 1) := by decide +kernel
theorem dX1_carryOut_30 : decode cX1_carryOut 30 = .ok (.aload_n 0, 1) := by decide +kernel
theorem dX1_carryOut_31 : decode cX1_carryOut 31 = .ok (.iload_n 2, 1) := by decide +kernel
theorem dX1_carryOut_32 : decode cX1_carryOut 32 = .ok (.iload_n 3, 1) := by decide +kernel
theorem dX1_carryOut_33 : decode cX1_carryOut 33 = .ok (.aload_n 1, 1) := by decide +kernel
theorem dX1_carryOut_34 : decode cX1_carryOut 34 = .ok (.invokevirtual 32, 3) := by decide +kernel
theorem dX1_carryOut_37 : decode cX1_carryOut 37 = .ok (.invokevirtual 36, 3) := by decide +kernel
theorem dX1_carryOut_40 : decode cX1_carryOut 40 = .ok (.aload_n 0, 1) := by decide +kernel
theorem dX1_carryOut_41 : decode cX1_carryOut 41 = .ok (.getfield 29, 3) := by decide +kernel
theorem dX1_carryOut_44 : decode cX1_carryOut 44 = .ok (.ifCond .eq 4, 3) := by decide +kernel
theorem dX1_carryOut_47 : decode cX1_carryOut 47 = .ok (.return_, 1) := by decide +kernel
theorem dX1_carryOut_48 : decode cX1_carryOut 48 = .ok (.aload_n 0, 1) := by decide +kernel
theorem dX1_carryOut_49 : decode cX1_carryOut 49 = .ok (.dup, 1) := by decide +kernel
theorem dX1_carryOut_50 : decode cX1_carryOut 50 = .ok (.getfield 23, 3) := by decide +kernel
theorem dX1_carryOut_53 : decode cX1_carryOut 53 = .ok (.iconst 1, 1) := by decide +kernel
theorem dX1_carryOut_54 : decode cX1_carryOut 54 = .ok (.iadd, 1) := by decide +kernel
theorem dX1_carryOut_55 : decode cX1_carryOut 55 = .ok (.putfield 23, 3) := by decide +kernel
theorem dX1_carryOut_58 : decode cX1_carryOut 58 = .ok (.iload_n 3, 1) := by decide +kernel
theorem dX1_carryOut_59 : decode cX1_carryOut 59 = .ok (.iconst 1, 1) := by decide +kernel
theorem dX1_carryOut_60 : decode cX1_carryOut 60 = .ok (.iadd, 1) := by decide +kernel
theorem dX1_carryOut_61 : decode cX1_carryOut 61 = .ok (.istore_n 2, 1) := by decide +kernel
theorem dX1_carryOut_62 : decode cX1_carryOut 62 = .ok (.iinc 3 1, 3) := by decide +kernel
theorem dX1_carryOut_65 : decode cX1_carryOut 65 = .ok (.goto (-56), 3) := by decide +kernel
theorem dX1_carryOut_68 : decode cX1_carryOut 68 = .ok (.aload_n 0, 1) := by decide +kernel
theorem dX1_carryOut_69 : decode cX1_carryOut 69 = .ok (.iload_n 2, 1) := by decide +kernel
theorem dX1_carryOut_70 : decode cX1_carryOut 70 = .ok (.iload_n 2, 1) := by decide +kernel
theorem dX1_carryOut_71 : decode cX1_carryOut 71 = .ok (.aload_n 0, 1) := by decide +kernel
theorem dX1_carryOut_72 : decode cX1_carryOut 72 = .ok (.getfield 15, 3) := by decide +kernel
theorem dX1_carryOut_75 : decode cX1_carryOut 75 = .ok (.if_icmp .ge 7, 3) := by decide +kernel
theorem dX1_carryOut_78 : decode cX1_carryOut 78 = .ok (.iconst 1, 1) := by decide +kernel
theorem dX1_carryOut_79 : decode cX1_carryOut 79 = .ok (.goto 4, 3) := by decide +kernel
theorem dX1_carryOut_82 : decode cX1_carryOut 82 = .ok (.iconst 0, 1) := by decide +kernel
theorem dX1_carryOut_83 : decode cX1_carryOut 83 = .ok (.invokevirtual 36, 3) := by decide +kernel
theorem dX1_carryOut_86 : decode cX1_carryOut 86 = .ok (.return_, 1) := by decide +kernel
theorem dX1_setFault_0 : decode cX1_setFault 0 = .ok (.aload_n 0, 1) := by decide +kernel
theorem dX1_setFault_1 : decode cX1_setFault 1 = .ok (.iload_n 1, 1) := by decide +kernel
theorem dX1_setFault_2 : decode cX1_setFault 2 = .ok (.putfield 26, 3) := by decide +kernel
theorem dX1_setFault_5 : decode cX1_setFault 5 = .ok (.aload_n 0, 1) := by decide +kernel
theorem dX1_setFault_6 : decode cX1_setFault 6 = .ok (.iload_n 2, 1) := by decide +kernel
theorem dX1_setFault_7 : decode cX1_setFault 7 = .ok (.putfield 29, 3) := by decide +kernel
theorem dX1_setFault_10 : decode cX1_setFault 10 = .ok (.return_, 1) := by decide +kernel
theorem dX1_tryOrder_0 : decode cX1_tryOrder 0 = .ok (.aload_n 0, 1) := by decide +kernel
theorem dX1_tryOrder_1 : decode cX1_tryOrder 1 = .ok (.iload_n 1, 1) := by decide +kernel
theorem dX1_tryOrder_2 : decode cX1_tryOrder 2 = .ok (.iload_n 2, 1) := by decide +kernel
theorem dX1_tryOrder_3 : decode cX1_tryOrder 3 = .ok (.invokevirtual 40, 3) := by decide +kernel
theorem dX1_tryOrder_6 : decode cX1_tryOrder 6 = .ok (.ifCond .ne 5, 3) := by decide +kernel
theorem dX1_tryOrder_9 : decode cX1_tryOrder 9 = .ok (.iconst 1, 1) := by decide +kernel
theorem dX1_tryOrder_10 : decode cX1_tryOrder 10 = .ok (.ireturn, 1) := by decide +kernel
theorem dX1_tryOrder_11 : decode cX1_tryOrder 11 = .ok (.aload_n 0, 1) := by decide +kernel
theorem dX1_tryOrder_12 : decode cX1_tryOrder 12 = .ok (.aload_n 0, 1) := by decide +kernel
theorem dX1_tryOrder_13 : decode cX1_tryOrder 13 = .ok (.getfield 9, 3) := by decide +kernel
theorem dX1_tryOrder_16 : decode cX1_tryOrder 16 = .ok (.iload_n 1, 1) := by decide +kernel
theorem dX1_tryOrder_17 : decode cX1_tryOrder 17 = .ok (.caload, 1) := by decide +kernel
theorem dX1_tryOrder_18 : decode cX1_tryOrder 18 = .ok (.aload_n 3, 1) := by decide +kernel
theorem dX1_tryOrder_19 : decode cX1_tryOrder 19 = .ok (.invokevirtual 44, 3) := by decide +kernel
theorem dX1_tryOrder_22 : decode cX1_tryOrder 22 = .ok (.ifCond .ne 5, 3) := by decide +kernel
theorem dX1_tryOrder_25 : decode cX1_tryOrder 25 = .ok (.iconst 2, 1) := by decide +kernel
theorem dX1_tryOrder_26 : decode cX1_tryOrder 26 = .ok (.ireturn, 1) := by decide +kernel
theorem dX1_tryOrder_27 : decode cX1_tryOrder 27 = .ok (.aload_n 0, 1) := by decide +kernel
theorem dX1_tryOrder_28 : decode cX1_tryOrder 28 = .ok (.aload_n 0, 1) := by decide +kernel
theorem dX1_tryOrder_29 : decode cX1_tryOrder 29 = .ok (.getfield 9, 3) := by decide +kernel
theorem dX1_tryOrder_32 : decode cX1_tryOrder 32 = .ok (.iload_n 1, 1) := by decide +kernel
theorem dX1_tryOrder_33 : decode cX1_tryOrder 33 = .ok (.caload, 1) := by decide +kernel
theorem dX1_tryOrder_34 : decode cX1_tryOrder 34 = .ok (.aload_n 3, 1) := by decide +kernel
theorem dX1_tryOrder_35 : decode cX1_tryOrder 35 = .ok (.invokevirtual 48, 3) := by decide +kernel
theorem dX1_tryOrder_38 : decode cX1_tryOrder 38 = .ok (.ifCond .ge 7, 3) := by decide +kernel
theorem dX1_tryOrder_41 : decode cX1_tryOrder 41 = .ok (.iconst 3, 1) := by decide +kernel
theorem dX1_tryOrder_42 : decode cX1_tryOrder 42 = .ok (.goto 4, 3) := by decide +kernel
theorem dX1_tryOrder_45 : decode cX1_tryOrder 45 = .ok (.iconst 0, 1) := by decide +kernel
theorem dX1_tryOrder_46 : decode cX1_tryOrder 46 = .ok (.ireturn, 1) := by decide +kernel
theorem dX1_readNumbers_0 : decode cX1_readNumbers 0 = .ok (.aload_n 0, 1) := by decide +kernel
theorem dX1_readNumbers_1 : decode cX1_readNumbers 1 = .ok (.getfield 9, 3) := by decide +kernel
theorem dX1_readNumbers_4 : decode cX1_readNumbers 4 = .ok (.iload_n 1, 1) := by decide +kernel
theorem dX1_readNumbers_5 : decode cX1_readNumbers 5 = .ok (.caload, 1) := by decide +kernel
theorem dX1_readNumbers_6 : decode cX1_readNumbers 6 = .ok (.invokestatic 52, 3) := by decide +kernel
theorem dX1_readNumbers_9 : decode cX1_readNumbers 9 = .ok (.istore_n 3, 1) := by decide +kernel
theorem dX1_readNumbers_10 : decode cX1_readNumbers 10 = .ok (.iconst 0, 1) := by decide +kernel
theorem dX1_readNumbers_11 : decode cX1_readNumbers 11 = .ok (.istore 4, 2) := by decide +kernel
theorem dX1_readNumbers_13 : decode cX1_readNumbers 13 = .ok (.iconst 0, 1) := by decide +kernel
theorem dX1_readNumbers_14 : decode cX1_readNumbers 14 = .ok (.istore 5, 2) := by decide +kernel
theorem dX1_readNumbers_16 : decode cX1_readNumbers 16 = .ok (.iconst 0, 1) := by decide +kernel
theorem dX1_readNumbers_17 : decode cX1_readNumbers 17 = .ok (.istore 6, 2) := by decide +kernel
theorem dX1_readNumbers_19 : decode cX1_readNumbers 19 = .ok (.iload_n 1, 1) := by decide +kernel
theorem dX1_readNumbers_20 : decode cX1_readNumbers 20 = .ok (.iconst 1, 1) := by decide +kernel
theorem dX1_readNumbers_21 : decode cX1_readNumbers 21 = .ok (.iadd, 1) := by decide +kernel
theorem dX1_readNumbers_22 : decode cX1_readNumbers 22 = .ok (.istore 7, 2) := by decide +kernel
theorem dX1_readNumbers_24 : decode cX1_readNumbers 24 = .ok (.iload 7, 2) := by decide +kernel
theorem dX1_readNumbers_26 : decode cX1_readNumbers 26 = .ok (.iload_n 2, 1) := by decide +kernel
theorem dX1_readNumbers_27 : decode cX1_readNumbers 27 = .ok (.if_icmp .gt 112, 3) := by decide +kernel
theorem dX1_readNumbers_30 : decode cX1_readNumbers 30 = .ok (.aload_n 0, 1) := by decide +kernel
theorem dX1_readNumbers_31 : decode cX1_readNumbers 31 = .ok (.getfield 9, 3) := by decide +kernel
theorem dX1_readNumbers_34 : decode cX1_readNumbers 34 = .ok (.iload 7, 2) := by decide +kernel
theorem dX1_readNumbers_36 : decode cX1_readNumbers 36 = .ok (.caload, 1) := by decide +kernel
theorem dX1_readNumbers_37 : decode cX1_readNumbers 37 = .ok (.istore 8, 2) := by decide +kernel
theorem dX1_readNumbers_39 : decode cX1_readNumbers 39 = .ok (.iload 8, 2) := by decide +kernel
theorem dX1_readNumbers_41 : decode cX1_readNumbers 41 = .ok (.bipush 48, 2) := by decide +kernel
theorem dX1_readNumbers_43 : decode cX1_readNumbers 43 = .ok (.if_icmp .lt 34, 3) := by decide +kernel
theorem dX1_readNumbers_46 : decode cX1_readNumbers 46 = .ok (.iload 8, 2) := by decide +kernel
theorem dX1_readNumbers_48 : decode cX1_readNumbers 48 = .ok (.bipush 57, 2) := by decide +kernel
theorem dX1_readNumbers_50 : decode cX1_readNumbers 50 = .ok (.if_icmp .gt 27, 3) := by decide +kernel
theorem dX1_readNumbers_53 : decode cX1_readNumbers 53 = .ok (.iload 5, 2) := by decide +kernel
theorem dX1_readNumbers_55 : decode cX1_readNumbers 55 = .ok (.bipush 10, 2) := by decide +kernel
theorem dX1_readNumbers_57 : decode cX1_readNumbers 57 = .ok (.imul, 1) := by decide +kernel
theorem dX1_readNumbers_58 : decode cX1_readNumbers 58 = .ok (.iload 8, 2) := by decide +kernel
theorem dX1_readNumbers_60 : decode cX1_readNumbers 60 = .ok (.bipush 48, 2) := by decide +kernel
theorem dX1_readNumbers_62 : decode cX1_readNumbers 62 = .ok (.isub, 1) := by decide +kernel
theorem dX1_readNumbers_63 : decode cX1_readNumbers 63 = .ok (.iadd, 1) := by decide +kernel
theorem dX1_readNumbers_64 : decode cX1_readNumbers 64 = .ok (.istore 5, 2) := by decide +kernel
theorem dX1_readNumbers_66 : decode cX1_readNumbers 66 = .ok (.iinc 6 1, 3) := by decide +kernel
theorem dX1_readNumbers_69 : decode cX1_readNumbers 69 = .ok (.iload 6, 2) := by decide +kernel
theorem dX1_readNumbers_71 : decode cX1_readNumbers 71 = .ok (.iconst 2, 1) := by decide +kernel
theorem dX1_readNumbers_72 : decode cX1_readNumbers 72 = .ok (.if_icmp .le 61, 3) := by decide +kernel
theorem dX1_readNumbers_75 : decode cX1_readNumbers 75 = .ok (.iconst 0, 1) := by decide +kernel
theorem dX1_readNumbers_76 : decode cX1_readNumbers 76 = .ok (.ireturn, 1) := by decide +kernel
theorem dX1_readNumbers_77 : decode cX1_readNumbers 77 = .ok (.iload 7, 2) := by decide +kernel
theorem dX1_readNumbers_79 : decode cX1_readNumbers 79 = .ok (.iload_n 2, 1) := by decide +kernel
theorem dX1_readNumbers_80 : decode cX1_readNumbers 80 = .ok (.if_icmp .eq 10, 3) := by decide +kernel
theorem dX1_readNumbers_83 : decode cX1_readNumbers 83 = .ok (.iload 8, 2) := by decide +kernel
theorem dX1_readNumbers_85 : decode cX1_readNumbers 85 = .ok (.bipush 44, 2) := by decide +kernel
theorem dX1_readNumbers_87 : decode cX1_readNumbers 87 = .ok (.if_icmp .ne 7, 3) := by decide +kernel
theorem dX1_readNumbers_90 : decode cX1_readNumbers 90 = .ok (.iconst 1, 1) := by decide +kernel
theorem dX1_readNumbers_91 : decode cX1_readNumbers 91 = .ok (.goto 4, 3) := by decide +kernel
theorem dX1_readNumbers_94 : decode cX1_readNumbers 94 = .ok (.iconst 0, 1) := by decide +kernel
theorem dX1_readNumbers_95 : decode cX1_readNumbers 95 = .ok (.istore 9, 2) := by decide +kernel
theorem dX1_readNumbers_97 : decode cX1_readNumbers 97 = .ok (.iload 9, 2) := by decide +kernel
theorem dX1_readNumbers_99 : decode cX1_readNumbers 99 = .ok (.ifCond .eq 14, 3) := by decide +kernel
theorem dX1_readNumbers_102 : decode cX1_readNumbers 102 = .ok (.iload 6, 2) := by decide +kernel
theorem dX1_readNumbers_104 : decode cX1_readNumbers 104 = .ok (.ifCond .eq 9, 3) := by decide +kernel
theorem dX1_readNumbers_107 : decode cX1_readNumbers 107 = .ok (.iload 4, 2) := by decide +kernel
theorem dX1_readNumbers_109 : decode cX1_readNumbers 109 = .ok (.iload_n 3, 1) := by decide +kernel
theorem dX1_readNumbers_110 : decode cX1_readNumbers 110 = .ok (.if_icmp .lt 5, 3) := by decide +kernel
theorem dX1_readNumbers_113 : decode cX1_readNumbers 113 = .ok (.iconst 0, 1) := by decide +kernel
theorem dX1_readNumbers_114 : decode cX1_readNumbers 114 = .ok (.ireturn, 1) := by decide +kernel
theorem dX1_readNumbers_115 : decode cX1_readNumbers 115 = .ok (.aload_n 0, 1) := by decide +kernel
theorem dX1_readNumbers_116 : decode cX1_readNumbers 116 = .ok (.getfield 19, 3) := by decide +kernel
theorem dX1_readNumbers_119 : decode cX1_readNumbers 119 = .ok (.iload 4, 2) := by decide +kernel
theorem dX1_readNumbers_121 : decode cX1_readNumbers 121 = .ok (.iload 5, 2) := by decide +kernel
theorem dX1_readNumbers_123 : decode cX1_readNumbers 123 = .ok (.iastore, 1) := by decide +kernel
theorem dX1_readNumbers_124 : decode cX1_readNumbers 124 = .ok (.iinc 4 1, 3) := by decide +kernel
theorem dX1_readNumbers_127 : decode cX1_readNumbers 127 = .ok (.iconst 0, 1) := by decide +kernel
theorem dX1_readNumbers_128 : decode cX1_readNumbers 128 = .ok (.istore 5, 2) := by decide +kernel
theorem dX1_readNumbers_130 : decode cX1_readNumbers 130 = .ok (.iconst 0, 1) := by decide +kernel
theorem dX1_readNumbers_131 : decode cX1_readNumbers 131 = .ok (.istore 6, 2) := by decide +kernel
theorem dX1_readNumbers_133 : decode cX1_readNumbers 133 = .ok (.iinc 7 1, 3) := by decide +kernel
theorem dX1_readNumbers_136 : decode cX1_readNumbers 136 = .ok (.goto (-112), 3) := by decide +kernel
theorem dX1_readNumbers_139 : decode cX1_readNumbers 139 = .ok (.iload_n 3, 1) := by decide +kernel
theorem dX1_readNumbers_140 : decode cX1_readNumbers 140 = .ok (.ifCond .le 13, 3) := by decide +kernel
theorem dX1_readNumbers_143 : decode cX1_readNumbers 143 = .ok (.iload 4, 2) := by decide +kernel
theorem dX1_readNumbers_145 : decode cX1_readNumbers 145 = .ok (.iload_n 3, 1) := by decide +kernel
theorem dX1_readNumbers_146 : decode cX1_readNumbers 146 = .ok (.if_icmp .ne 7, 3) := by decide +kernel
theorem dX1_readNumbers_149 : decode cX1_readNumbers 149 = .ok (.iconst 1, 1) := by decide +kernel
theorem dX1_readNumbers_150 : decode cX1_readNumbers 150 = .ok (.goto 4, 3) := by decide +kernel
theorem dX1_readNumbers_153 : decode cX1_readNumbers 153 = .ok (.iconst 0, 1) := by decide +kernel
theorem dX1_readNumbers_154 : decode cX1_readNumbers 154 = .ok (.ireturn, 1) := by decide +kernel
theorem dX1_numbersOf_0 : decode cX1_numbersOf 0 = .ok (.iload_n 0, 1) := by decide +kernel
theorem dX1_numbersOf_1 : decode cX1_numbersOf 1 = .ok (.lookupswitch 65 #[(98, 61), (109, 61), (110, 63), (115, 63), (116, 59), (119, 63)], 59) := by decide +kernel
theorem dX1_numbersOf_60 : decode cX1_numbersOf 60 = .ok (.iconst 3, 1) := by decide +kernel
theorem dX1_numbersOf_61 : decode cX1_numbersOf 61 = .ok (.ireturn, 1) := by decide +kernel
theorem dX1_numbersOf_62 : decode cX1_numbersOf 62 = .ok (.iconst 2, 1) := by decide +kernel
theorem dX1_numbersOf_63 : decode cX1_numbersOf 63 = .ok (.ireturn, 1) := by decide +kernel
theorem dX1_numbersOf_64 : decode cX1_numbersOf 64 = .ok (.iconst 1, 1) := by decide +kernel
theorem dX1_numbersOf_65 : decode cX1_numbersOf 65 = .ok (.ireturn, 1) := by decide +kernel
theorem dX1_numbersOf_66 : decode cX1_numbersOf 66 = .ok (.iconst 0, 1) := by decide +kernel
theorem dX1_numbersOf_67 : decode cX1_numbersOf 67 = .ok (.ireturn, 1) := by decide +kernel
theorem dX1_namesExist_0 : decode cX1_namesExist 0 = .ok (.iload_n 1, 1) := by decide +kernel
theorem dX1_namesExist_1 : decode cX1_namesExist 1 = .ok (.lookupswitch 125 #[(98, 51), (109, 82), (115, 114), (116, 51), (119, 114)], 51) := by decide +kernel
theorem dX1_namesExist_52 : decode cX1_namesExist 52 = .ok (.aload_n 2, 1) := by decide +kernel
theorem dX1_namesExist_53 : decode cX1_namesExist 53 = .ok (.aload_n 0, 1) := by decide +kernel
theorem dX1_namesExist_54 : decode cX1_namesExist 54 = .ok (.getfield 19, 3) := by decide +kernel
theorem dX1_namesExist_57 : decode cX1_namesExist 57 = .ok (.iconst 0, 1) := by decide +kernel
theorem dX1_namesExist_58 : decode cX1_namesExist 58 = .ok (.iaload, 1) := by decide +kernel
theorem dX1_namesExist_59 : decode cX1_namesExist 59 = .ok (.invokevirtual 56, 3) := by decide +kernel
theorem dX1_namesExist_62 : decode cX1_namesExist 62 = .ok (.ifCond .eq 19, 3) := by decide +kernel
theorem dX1_namesExist_65 : decode cX1_namesExist 65 = .ok (.aload_n 0, 1) := by decide +kernel
theorem dX1_namesExist_66 : decode cX1_namesExist 66 = .ok (.getfield 19, 3) := by decide +kernel
theorem dX1_namesExist_69 : decode cX1_namesExist 69 = .ok (.iconst 1, 1) := by decide +kernel
theorem dX1_namesExist_70 : decode cX1_namesExist 70 = .ok (.iaload, 1) := by decide +kernel
theorem dX1_namesExist_71 : decode cX1_namesExist 71 = .ok (.invokestatic 62, 3) := by decide +kernel
theorem dX1_namesExist_74 : decode cX1_namesExist 74 = .ok (.ifCond .eq 7, 3) := by decide +kernel
theorem dX1_namesExist_77 : decode cX1_namesExist 77 = .ok (.iconst 1, 1) := by decide +kernel
theorem dX1_namesExist_78 : decode cX1_namesExist 78 = .ok (.goto 4, 3) := by decide +kernel
theorem dX1_namesExist_81 : decode cX1_namesExist 81 = .ok (.iconst 0, 1) := by decide +kernel
theorem dX1_namesExist_82 : decode cX1_namesExist 82 = .ok (.ireturn, 1) := by decide +kernel
theorem dX1_namesExist_83 : decode cX1_namesExist 83 = .ok (.aload_n 2, 1) := by decide +kernel
theorem dX1_namesExist_84 : decode cX1_namesExist 84 = .ok (.aload_n 0, 1) := by decide +kernel
theorem dX1_namesExist_85 : decode cX1_namesExist 85 = .ok (.getfield 19, 3) := by decide +kernel
theorem dX1_namesExist_88 : decode cX1_namesExist 88 = .ok (.iconst 0, 1) := by decide +kernel
theorem dX1_namesExist_89 : decode cX1_namesExist 89 = .ok (.iaload, 1) := by decide +kernel
theorem dX1_namesExist_90 : decode cX1_namesExist 90 = .ok (.invokevirtual 56, 3) := by decide +kernel
theorem dX1_namesExist_93 : decode cX1_namesExist 93 = .ok (.ifCond .eq 20, 3) := by decide +kernel
theorem dX1_namesExist_96 : decode cX1_namesExist 96 = .ok (.aload_n 2, 1) := by decide +kernel
theorem dX1_namesExist_97 : decode cX1_namesExist 97 = .ok (.aload_n 0, 1) := by decide +kernel
theorem dX1_namesExist_98 : decode cX1_namesExist 98 = .ok (.getfield 19, 3) := by decide +kernel
theorem dX1_namesExist_101 : decode cX1_namesExist 101 = .ok (.iconst 1, 1) := by decide +kernel
theorem dX1_namesExist_102 : decode cX1_namesExist 102 = .ok (.iaload, 1) := by decide +kernel
theorem dX1_namesExist_103 : decode cX1_namesExist 103 = .ok (.invokevirtual 56, 3) := by decide +kernel
theorem dX1_namesExist_106 : decode cX1_namesExist 106 = .ok (.ifCond .eq 7, 3) := by decide +kernel
theorem dX1_namesExist_109 : decode cX1_namesExist 109 = .ok (.iconst 1, 1) := by decide +kernel
theorem dX1_namesExist_110 : decode cX1_namesExist 110 = .ok (.goto 4, 3) := by decide +kernel
theorem dX1_namesExist_113 : decode cX1_namesExist 113 = .ok (.iconst 0, 1) := by decide +kernel
theorem dX1_namesExist_114 : decode cX1_namesExist 114 = .ok (.ireturn, 1) := by decide +kernel
theorem dX1_namesExist_115 : decode cX1_namesExist 115 = .ok (.aload_n 2, 1) := by decide +kernel
theorem dX1_namesExist_116 : decode cX1_namesExist 116 = .ok (.aload_n 0, 1) := by decide +kernel
theorem dX1_namesExist_117 : decode cX1_namesExist 117 = .ok (.getfield 19, 3) := by decide +kernel
theorem dX1_namesExist_120 : decode cX1_namesExist 120 = .ok (.iconst 0, 1) := by decide +kernel
theorem dX1_namesExist_121 : decode cX1_namesExist 121 = .ok (.iaload, 1) := by decide +kernel
theorem dX1_namesExist_122 : decode cX1_namesExist 122 = .ok (.invokevirtual 56, 3) := by decide +kernel
theorem dX1_namesExist_125 : decode cX1_namesExist 125 = .ok (.ireturn, 1) := by decide +kernel
theorem dX1_namesExist_126 : decode cX1_namesExist 126 = .ok (.iconst 1, 1) := by decide +kernel
theorem dX1_namesExist_127 : decode cX1_namesExist 127 = .ok (.ireturn, 1) := by decide +kernel
theorem dX1_doOrder_0 : decode cX1_doOrder 0 = .ok (.iload_n 1, 1) := by decide +kernel
theorem dX1_doOrder_1 : decode cX1_doOrder 1 = .ok (.lookupswitch 131 #[(98, 75), (109, 92), (115, 109), (116, 51), (119, 120)], 51) := by decide +kernel
theorem dX1_doOrder_52 : decode cX1_doOrder 52 = .ok (.aload_n 2, 1) := by decide +kernel
theorem dX1_doOrder_53 : decode cX1_doOrder 53 = .ok (.aload_n 0, 1) := by decide +kernel
theorem dX1_doOrder_54 : decode cX1_doOrder 54 = .ok (.getfield 19, 3) := by decide +kernel
theorem dX1_doOrder_57 : decode cX1_doOrder 57 = .ok (.iconst 0, 1) := by decide +kernel
theorem dX1_doOrder_58 : decode cX1_doOrder 58 = .ok (.iaload, 1) := by decide +kernel
theorem dX1_doOrder_59 : decode cX1_doOrder 59 = .ok (.aload_n 0, 1) := by decide +kernel
theorem dX1_doOrder_60 : decode cX1_doOrder 60 = .ok (.getfield 19, 3) := by decide +kernel
theorem dX1_doOrder_63 : decode cX1_doOrder 63 = .ok (.iconst 1, 1) := by decide +kernel
theorem dX1_doOrder_64 : decode cX1_doOrder 64 = .ok (.iaload, 1) := by decide +kernel
theorem dX1_doOrder_65 : decode cX1_doOrder 65 = .ok (.aload_n 0, 1) := by decide +kernel
theorem dX1_doOrder_66 : decode cX1_doOrder 66 = .ok (.getfield 19, 3) := by decide +kernel
theorem dX1_doOrder_69 : decode cX1_doOrder 69 = .ok (.iconst 2, 1) := by decide +kernel
theorem dX1_doOrder_70 : decode cX1_doOrder 70 = .ok (.iaload, 1) := by decide +kernel
theorem dX1_doOrder_71 : decode cX1_doOrder 71 = .ok (.iconst 0, 1) := by decide +kernel
theorem dX1_doOrder_72 : decode cX1_doOrder 72 = .ok (.invokevirtual 65, 3) := by decide +kernel
theorem dX1_doOrder_75 : decode cX1_doOrder 75 = .ok (.ireturn, 1) := by decide +kernel
theorem dX1_doOrder_76 : decode cX1_doOrder 76 = .ok (.aload_n 2, 1) := by decide +kernel
theorem dX1_doOrder_77 : decode cX1_doOrder 77 = .ok (.aload_n 0, 1) := by decide +kernel
theorem dX1_doOrder_78 : decode cX1_doOrder 78 = .ok (.getfield 19, 3) := by decide +kernel
theorem dX1_doOrder_81 : decode cX1_doOrder 81 = .ok (.iconst 0, 1) := by decide +kernel
theorem dX1_doOrder_82 : decode cX1_doOrder 82 = .ok (.iaload, 1) := by decide +kernel
theorem dX1_doOrder_83 : decode cX1_doOrder 83 = .ok (.aload_n 0, 1) := by decide +kernel
theorem dX1_doOrder_84 : decode cX1_doOrder 84 = .ok (.getfield 19, 3) := by decide +kernel
theorem dX1_doOrder_87 : decode cX1_doOrder 87 = .ok (.iconst 1, 1) := by decide +kernel
theorem dX1_doOrder_88 : decode cX1_doOrder 88 = .ok (.iaload, 1) := by decide +kernel
theorem dX1_doOrder_89 : decode cX1_doOrder 89 = .ok (.invokevirtual 69, 3) := by decide +kernel
theorem dX1_doOrder_92 : decode cX1_doOrder 92 = .ok (.ireturn, 1) := by decide +kernel
theorem dX1_doOrder_93 : decode cX1_doOrder 93 = .ok (.aload_n 2, 1) := by decide +kernel
theorem dX1_doOrder_94 : decode cX1_doOrder 94 = .ok (.aload_n 0, 1) := by decide +kernel
theorem dX1_doOrder_95 : decode cX1_doOrder 95 = .ok (.getfield 19, 3) := by decide +kernel
theorem dX1_doOrder_98 : decode cX1_doOrder 98 = .ok (.iconst 0, 1) := by decide +kernel
theorem dX1_doOrder_99 : decode cX1_doOrder 99 = .ok (.iaload, 1) := by decide +kernel
theorem dX1_doOrder_100 : decode cX1_doOrder 100 = .ok (.aload_n 0, 1) := by decide +kernel
theorem dX1_doOrder_101 : decode cX1_doOrder 101 = .ok (.getfield 19, 3) := by decide +kernel
theorem dX1_doOrder_104 : decode cX1_doOrder 104 = .ok (.iconst 1, 1) := by decide +kernel
theorem dX1_doOrder_105 : decode cX1_doOrder 105 = .ok (.iaload, 1) := by decide +kernel
theorem dX1_doOrder_106 : decode cX1_doOrder 106 = .ok (.invokevirtual 73, 3) := by decide +kernel
theorem dX1_doOrder_109 : decode cX1_doOrder 109 = .ok (.ireturn, 1) := by decide +kernel
theorem dX1_doOrder_110 : decode cX1_doOrder 110 = .ok (.aload_n 2, 1) := by decide +kernel
theorem dX1_doOrder_111 : decode cX1_doOrder 111 = .ok (.aload_n 0, 1) := by decide +kernel
theorem dX1_doOrder_112 : decode cX1_doOrder 112 = .ok (.getfield 19, 3) := by decide +kernel
theorem dX1_doOrder_115 : decode cX1_doOrder 115 = .ok (.iconst 0, 1) := by decide +kernel
theorem dX1_doOrder_116 : decode cX1_doOrder 116 = .ok (.iaload, 1) := by decide +kernel
theorem dX1_doOrder_117 : decode cX1_doOrder 117 = .ok (.invokevirtual 76, 3) := by decide +kernel
theorem dX1_doOrder_120 : decode cX1_doOrder 120 = .ok (.ireturn, 1) := by decide +kernel
theorem dX1_doOrder_121 : decode cX1_doOrder 121 = .ok (.aload_n 2, 1) := by decide +kernel
theorem dX1_doOrder_122 : decode cX1_doOrder 122 = .ok (.aload_n 0, 1) := by decide +kernel
theorem dX1_doOrder_123 : decode cX1_doOrder 123 = .ok (.getfield 19, 3) := by decide +kernel
theorem dX1_doOrder_126 : decode cX1_doOrder 126 = .ok (.iconst 0, 1) := by decide +kernel
theorem dX1_doOrder_127 : decode cX1_doOrder 127 = .ok (.iaload, 1) := by decide +kernel
theorem dX1_doOrder_128 : decode cX1_doOrder 128 = .ok (.invokevirtual 80, 3) := by decide +kernel
theorem dX1_doOrder_131 : decode cX1_doOrder 131 = .ok (.ireturn, 1) := by decide +kernel
theorem dX1_doOrder_132 : decode cX1_doOrder 132 = .ok (.aload_n 2, 1) := by decide +kernel
theorem dX1_doOrder_133 : decode cX1_doOrder 133 = .ok (.aload_n 0, 1) := by decide +kernel
theorem dX1_doOrder_134 : decode cX1_doOrder 134 = .ok (.getfield 19, 3) := by decide +kernel
theorem dX1_doOrder_137 : decode cX1_doOrder 137 = .ok (.iconst 0, 1) := by decide +kernel
theorem dX1_doOrder_138 : decode cX1_doOrder 138 = .ok (.iaload, 1) := by decide +kernel
theorem dX1_doOrder_139 : decode cX1_doOrder 139 = .ok (.invokevirtual 83, 3) := by decide +kernel
theorem dX1_doOrder_142 : decode cX1_doOrder 142 = .ok (.ireturn, 1) := by decide +kernel
theorem dX2_init_0 : decode cX2_init 0 = .ok (.aload_n 0, 1) := by decide +kernel
theorem dX2_init_1 : decode cX2_init 1 = .ok (.invokespecial 3, 3) := by decide +kernel
theorem dX2_init_4 : decode cX2_init 4 = .ok (.aload_n 0, 1) := by decide +kernel
theorem dX2_init_5 : decode cX2_init 5 = .ok (.iconst 0, 1) := by decide +kernel
theorem dX2_init_6 : decode cX2_init 6 = .ok (.putfield 9, 3) := by decide +kernel
theorem dX2_init_9 : decode cX2_init 9 = .ok (.aload_n 0, 1) := by decide +kernel
theorem dX2_init_10 : decode cX2_init 10 = .ok (.iconst 0, 1) := by decide +kernel
theorem dX2_init_11 : decode cX2_init 11 = .ok (.putfield 15, 3) := by decide +kernel
theorem dX2_init_14 : decode cX2_init 14 = .ok (.aload_n 0, 1) := by decide +kernel
theorem dX2_init_15 : decode cX2_init 15 = .ok (.bipush 10, 2) := by decide +kernel
theorem dX2_init_17 : decode cX2_init 17 = .ok (.putfield 18, 3) := by decide +kernel
theorem dX2_init_20 : decode cX2_init 20 = .ok (.aload_n 0, 1) := by decide +kernel
theorem dX2_init_21 : decode cX2_init 21 = .ok (.iconst 0, 1) := by decide +kernel
theorem dX2_init_22 : decode cX2_init 22 = .ok (.putfield 21, 3) := by decide +kernel
theorem dX2_init_25 : decode cX2_init 25 = .ok (.aload_n 0, 1) := by decide +kernel
theorem dX2_init_26 : decode cX2_init 26 = .ok (.bipush 7, 2) := by decide +kernel
theorem dX2_init_28 : decode cX2_init 28 = .ok (.newarray .int, 2) := by decide +kernel
theorem dX2_init_30 : decode cX2_init 30 = .ok (.putfield 24, 3) := by decide +kernel
theorem dX2_init_33 : decode cX2_init 33 = .ok (.aload_n 0, 1) := by decide +kernel
theorem dX2_init_34 : decode cX2_init 34 = .ok (.bipush 7, 2) := by decide +kernel
theorem dX2_init_36 : decode cX2_init 36 = .ok (.newarray .int, 2) := by decide +kernel
theorem dX2_init_38 : decode cX2_init 38 = .ok (.putfield 28, 3) := by decide +kernel
theorem dX2_init_41 : decode cX2_init 41 = .ok (.aload_n 0, 1) := by decide +kernel
theorem dX2_init_42 : decode cX2_init 42 = .ok (.bipush 7, 2) := by decide +kernel
theorem dX2_init_44 : decode cX2_init 44 = .ok (.newarray .int, 2) := by decide +kernel
theorem dX2_init_46 : decode cX2_init 46 = .ok (.putfield 31, 3) := by decide +kernel
theorem dX2_init_49 : decode cX2_init 49 = .ok (.aload_n 0, 1) := by decide +kernel
theorem dX2_init_50 : decode cX2_init 50 = .ok (.bipush 7, 2) := by decide +kernel
theorem dX2_init_52 : decode cX2_init 52 = .ok (.newarray .int, 2) := by decide +kernel
theorem dX2_init_54 : decode cX2_init 54 = .ok (.putfield 34, 3) := by decide +kernel
theorem dX2_init_57 : decode cX2_init 57 = .ok (.aload_n 0, 1) := by decide +kernel
theorem dX2_init_58 : decode cX2_init 58 = .ok (.bipush 84, 2) := by decide +kernel
theorem dX2_init_60 : decode cX2_init 60 = .ok (.newarray .int, 2) := by decide +kernel
theorem dX2_init_62 : decode cX2_init 62 = .ok (.putfield 37, 3) := by decide +kernel
theorem dX2_init_65 : decode cX2_init 65 = .ok (.aload_n 0, 1) := by decide +kernel
theorem dX2_init_66 : decode cX2_init 66 = .ok (.bipush 84, 2) := by decide +kernel
theorem dX2_init_68 : decode cX2_init 68 = .ok (.newarray .int, 2) := by decide +kernel
theorem dX2_init_70 : decode cX2_init 70 = .ok (.putfield 40, 3) := by decide +kernel
theorem dX2_init_73 : decode cX2_init 73 = .ok (.aload_n 0, 1) := by decide +kernel
theorem dX2_init_74 : decode cX2_init 74 = .ok (.bipush 84, 2) := by decide +kernel
theorem dX2_init_76 : decode cX2_init 76 = .ok (.newarray .int, 2) := by decide +kernel
theorem dX2_init_78 : decode cX2_init 78 = .ok (.putfield 43, 3) := by decide +kernel
theorem dX2_init_81 : decode cX2_init 81 = .ok (.aload_n 0, 1) := by decide +kernel
theorem dX2_init_82 : decode cX2_init 82 = .ok (.bipush 84, 2) := by decide +kernel
theorem dX2_init_84 : decode cX2_init 84 = .ok (.newarray .int, 2) := by decide +kernel
theorem dX2_init_86 : decode cX2_init 86 = .ok (.putfield 46, 3) := by decide +kernel
theorem dX2_init_89 : decode cX2_init 89 = .ok (.aload_n 0, 1) := by decide +kernel
theorem dX2_init_90 : decode cX2_init 90 = .ok (.bipush 84, 2) := by decide +kernel
theorem dX2_init_92 : decode cX2_init 92 = .ok (.newarray .int, 2) := by decide +kernel
theorem dX2_init_94 : decode cX2_init 94 = .ok (.putfield 49, 3) := by decide +kernel
theorem dX2_init_97 : decode cX2_init 97 = .ok (.aload_n 0, 1) := by decide +kernel
theorem dX2_init_98 : decode cX2_init 98 = .ok (.bipush 84, 2) := by decide +kernel
theorem dX2_init_100 : decode cX2_init 100 = .ok (.newarray .int, 2) := by decide +kernel
theorem dX2_init_102 : decode cX2_init 102 = .ok (.putfield 52, 3) := by decide +kernel
theorem dX2_init_105 : decode cX2_init 105 = .ok (.aload_n 0, 1) := by decide +kernel
theorem dX2_init_106 : decode cX2_init 106 = .ok (.bipush 12, 2) := by decide +kernel
theorem dX2_init_108 : decode cX2_init 108 = .ok (.newarray .int, 2) := by decide +kernel
theorem dX2_init_110 : decode cX2_init 110 = .ok (.putfield 55, 3) := by decide +kernel
theorem dX2_init_113 : decode cX2_init 113 = .ok (.return_, 1) := by decide +kernel
theorem dX2_copyFrom_0 : decode cX2_copyFrom 0 = .ok (.aload_n 0, 1) := by decide +kernel
theorem dX2_copyFrom_1 : decode cX2_copyFrom 1 = .ok (.aload_n 1, 1) := by decide +kernel
theorem dX2_copyFrom_2 : decode cX2_copyFrom 2 = .ok (.getfield 9, 3) := by decide +kernel
theorem dX2_copyFrom_5 : decode cX2_copyFrom 5 = .ok (.putfield 9, 3) := by decide +kernel
theorem dX2_copyFrom_8 : decode cX2_copyFrom 8 = .ok (.aload_n 0, 1) := by decide +kernel
theorem dX2_copyFrom_9 : decode cX2_copyFrom 9 = .ok (.aload_n 1, 1) := by decide +kernel
theorem dX2_copyFrom_10 : decode cX2_copyFrom 10 = .ok (.getfield 15, 3) := by decide +kernel
theorem dX2_copyFrom_13 : decode cX2_copyFrom 13 = .ok (.putfield 15, 3) := by decide +kernel
theorem dX2_copyFrom_16 : decode cX2_copyFrom 16 = .ok (.aload_n 0, 1) := by decide +kernel
theorem dX2_copyFrom_17 : decode cX2_copyFrom 17 = .ok (.aload_n 1, 1) := by decide +kernel
theorem dX2_copyFrom_18 : decode cX2_copyFrom 18 = .ok (.getfield 18, 3) := by decide +kernel
theorem dX2_copyFrom_21 : decode cX2_copyFrom 21 = .ok (.putfield 18, 3) := by decide +kernel
theorem dX2_copyFrom_24 : decode cX2_copyFrom 24 = .ok (.aload_n 0, 1) := by decide +kernel
theorem dX2_copyFrom_25 : decode cX2_copyFrom 25 = .ok (.aload_n 1, 1) := by decide +kernel
theorem dX2_copyFrom_26 : decode cX2_copyFrom 26 = .ok (.getfield 21, 3) := by decide +kernel
theorem dX2_copyFrom_29 : decode cX2_copyFrom 29 = .ok (.putfield 21, 3) := by decide +kernel
theorem dX2_copyFrom_32 : decode cX2_copyFrom 32 = .ok (.aload_n 1, 1) := by decide +kernel
theorem dX2_copyFrom_33 : decode cX2_copyFrom 33 = .ok (.getfield 24, 3) := by decide +kernel
theorem dX2_copyFrom_36 : decode cX2_copyFrom 36 = .ok (.aload_n 0, 1) := by decide +kernel
theorem dX2_copyFrom_37 : decode cX2_copyFrom 37 = .ok (.getfield 24, 3) := by decide +kernel
theorem dX2_copyFrom_40 : decode cX2_copyFrom 40 = .ok (.bipush 7, 2) := by decide +kernel
theorem dX2_copyFrom_42 : decode cX2_copyFrom 42 = .ok (.invokestatic 58, 3) := by decide +kernel
theorem dX2_copyFrom_45 : decode cX2_copyFrom 45 = .ok (.aload_n 1, 1) := by decide +kernel
theorem dX2_copyFrom_46 : decode cX2_copyFrom 46 = .ok (.getfield 28, 3) := by decide +kernel
theorem dX2_copyFrom_49 : decode cX2_copyFrom 49 = .ok (.aload_n 0, 1) := by decide +kernel
theorem dX2_copyFrom_50 : decode cX2_copyFrom 50 = .ok (.getfield 28, 3) := by decide +kernel
theorem dX2_copyFrom_53 : decode cX2_copyFrom 53 = .ok (.bipush 7, 2) := by decide +kernel
theorem dX2_copyFrom_55 : decode cX2_copyFrom 55 = .ok (.invokestatic 58, 3) := by decide +kernel
theorem dX2_copyFrom_58 : decode cX2_copyFrom 58 = .ok (.aload_n 1, 1) := by decide +kernel
theorem dX2_copyFrom_59 : decode cX2_copyFrom 59 = .ok (.getfield 31, 3) := by decide +kernel
theorem dX2_copyFrom_62 : decode cX2_copyFrom 62 = .ok (.aload_n 0, 1) := by decide +kernel
theorem dX2_copyFrom_63 : decode cX2_copyFrom 63 = .ok (.getfield 31, 3) := by decide +kernel
theorem dX2_copyFrom_66 : decode cX2_copyFrom 66 = .ok (.bipush 7, 2) := by decide +kernel
theorem dX2_copyFrom_68 : decode cX2_copyFrom 68 = .ok (.invokestatic 58, 3) := by decide +kernel
theorem dX2_copyFrom_71 : decode cX2_copyFrom 71 = .ok (.aload_n 1, 1) := by decide +kernel
theorem dX2_copyFrom_72 : decode cX2_copyFrom 72 = .ok (.getfield 34, 3) := by decide +kernel
theorem dX2_copyFrom_75 : decode cX2_copyFrom 75 = .ok (.aload_n 0, 1) := by decide +kernel
theorem dX2_copyFrom_76 : decode cX2_copyFrom 76 = .ok (.getfield 34, 3) := by decide +kernel
theorem dX2_copyFrom_79 : decode cX2_copyFrom 79 = .ok (.bipush 7, 2) := by decide +kernel
theorem dX2_copyFrom_81 : decode cX2_copyFrom 81 = .ok (.invokestatic 58, 3) := by decide +kernel
theorem dX2_copyFrom_84 : decode cX2_copyFrom 84 = .ok (.aload_n 1, 1) := by decide +kernel
theorem dX2_copyFrom_85 : decode cX2_copyFrom 85 = .ok (.getfield 37, 3) := by decide +kernel
theorem dX2_copyFrom_88 : decode cX2_copyFrom 88 = .ok (.aload_n 0, 1) := by decide +kernel
theorem dX2_copyFrom_89 : decode cX2_copyFrom 89 = .ok (.getfield 37, 3) := by decide +kernel
theorem dX2_copyFrom_92 : decode cX2_copyFrom 92 = .ok (.bipush 84, 2) := by decide +kernel
theorem dX2_copyFrom_94 : decode cX2_copyFrom 94 = .ok (.invokestatic 58, 3) := by decide +kernel
theorem dX2_copyFrom_97 : decode cX2_copyFrom 97 = .ok (.aload_n 1, 1) := by decide +kernel
theorem dX2_copyFrom_98 : decode cX2_copyFrom 98 = .ok (.getfield 40, 3) := by decide +kernel
theorem dX2_copyFrom_101 : decode cX2_copyFrom 101 = .ok (.aload_n 0, 1) := by decide +kernel
theorem dX2_copyFrom_102 : decode cX2_copyFrom 102 = .ok (.getfield 40, 3) := by decide +kernel
theorem dX2_copyFrom_105 : decode cX2_copyFrom 105 = .ok (.bipush 84, 2) := by decide +kernel
theorem dX2_copyFrom_107 : decode cX2_copyFrom 107 = .ok (.invokestatic 58, 3) := by decide +kernel
theorem dX2_copyFrom_110 : decode cX2_copyFrom 110 = .ok (.aload_n 1, 1) := by decide +kernel
theorem dX2_copyFrom_111 : decode cX2_copyFrom 111 = .ok (.getfield 43, 3) := by decide +kernel
theorem dX2_copyFrom_114 : decode cX2_copyFrom 114 = .ok (.aload_n 0, 1) := by decide +kernel
theorem dX2_copyFrom_115 : decode cX2_copyFrom 115 = .ok (.getfield 43, 3) := by decide +kernel
theorem dX2_copyFrom_118 : decode cX2_copyFrom 118 = .ok (.bipush 84, 2) := by decide +kernel
theorem dX2_copyFrom_120 : decode cX2_copyFrom 120 = .ok (.invokestatic 58, 3) := by decide +kernel
theorem dX2_copyFrom_123 : decode cX2_copyFrom 123 = .ok (.aload_n 1, 1) := by decide +kernel
theorem dX2_copyFrom_124 : decode cX2_copyFrom 124 = .ok (.getfield 46, 3) := by decide +kernel
theorem dX2_copyFrom_127 : decode cX2_copyFrom 127 = .ok (.aload_n 0, 1) := by decide +kernel
theorem dX2_copyFrom_128 : decode cX2_copyFrom 128 = .ok (.getfield 46, 3) := by decide +kernel
theorem dX2_copyFrom_131 : decode cX2_copyFrom 131 = .ok (.bipush 84, 2) := by decide +kernel
theorem dX2_copyFrom_133 : decode cX2_copyFrom 133 = .ok (.invokestatic 58, 3) := by decide +kernel
theorem dX2_copyFrom_136 : decode cX2_copyFrom 136 = .ok (.aload_n 1, 1) := by decide +kernel
theorem dX2_copyFrom_137 : decode cX2_copyFrom 137 = .ok (.getfield 49, 3) := by decide +kernel
theorem dX2_copyFrom_140 : decode cX2_copyFrom 140 = .ok (.aload_n 0, 1) := by decide +kernel
theorem dX2_copyFrom_141 : decode cX2_copyFrom 141 = .ok (.getfield 49, 3) := by decide +kernel
theorem dX2_copyFrom_144 : decode cX2_copyFrom 144 = .ok (.bipush 84, 2) := by decide +kernel
theorem dX2_copyFrom_146 : decode cX2_copyFrom 146 = .ok (.invokestatic 58, 3) := by decide +kernel
theorem dX2_copyFrom_149 : decode cX2_copyFrom 149 = .ok (.aload_n 1, 1) := by decide +kernel
theorem dX2_copyFrom_150 : decode cX2_copyFrom 150 = .ok (.getfield 52, 3) := by decide +kernel
theorem dX2_copyFrom_153 : decode cX2_copyFrom 153 = .ok (.aload_n 0, 1) := by decide +kernel
theorem dX2_copyFrom_154 : decode cX2_copyFrom 154 = .ok (.getfield 52, 3) := by decide +kernel
theorem dX2_copyFrom_157 : decode cX2_copyFrom 157 = .ok (.bipush 84, 2) := by decide +kernel
theorem dX2_copyFrom_159 : decode cX2_copyFrom 159 = .ok (.invokestatic 58, 3) := by decide +kernel
theorem dX2_copyFrom_162 : decode cX2_copyFrom 162 = .ok (.aload_n 1, 1) := by decide +kernel
theorem dX2_copyFrom_163 : decode cX2_copyFrom 163 = .ok (.getfield 55, 3) := by decide +kernel
theorem dX2_copyFrom_166 : decode cX2_copyFrom 166 = .ok (.aload_n 0, 1) := by decide +kernel
theorem dX2_copyFrom_167 : decode cX2_copyFrom 167 = .ok (.getfield 55, 3) := by decide +kernel
theorem dX2_copyFrom_170 : decode cX2_copyFrom 170 = .ok (.bipush 12, 2) := by decide +kernel
theorem dX2_copyFrom_172 : decode cX2_copyFrom 172 = .ok (.invokestatic 58, 3) := by decide +kernel
theorem dX2_copyFrom_175 : decode cX2_copyFrom 175 = .ok (.return_, 1) := by decide +kernel
theorem dX2_copyRow_0 : decode cX2_copyRow 0 = .ok (.aload_n 0, 1) := by decide +kernel
theorem dX2_copyRow_1 : decode cX2_copyRow 1 = .ok (.iconst 0, 1) := by decide +kernel
theorem dX2_copyRow_2 : decode cX2_copyRow 2 = .ok (.aload_n 1, 1) := by decide +kernel
theorem dX2_copyRow_3 : decode cX2_copyRow 3 = .ok (.iconst 0, 1) := by decide +kernel
theorem dX2_copyRow_4 : decode cX2_copyRow 4 = .ok (.iload_n 2, 1) := by decide +kernel
theorem dX2_copyRow_5 : decode cX2_copyRow 5 = .ok (.invokestatic 62, 3) := by decide +kernel
theorem dX2_copyRow_8 : decode cX2_copyRow 8 = .ok (.return_, 1) := by decide +kernel
theorem dX2_has_0 : decode cX2_has 0 = .ok (.iload_n 1, 1) := by decide +kernel
theorem dX2_has_1 : decode cX2_has 1 = .ok (.ifCond .lt 15, 3) := by decide +kernel
theorem dX2_has_4 : decode cX2_has 4 = .ok (.iload_n 1, 1) := by decide +kernel
theorem dX2_has_5 : decode cX2_has 5 = .ok (.aload_n 0, 1) := by decide +kernel
theorem dX2_has_6 : decode cX2_has 6 = .ok (.getfield 9, 3) := by decide +kernel
theorem dX2_has_9 : decode cX2_has 9 = .ok (.if_icmp .ge 7, 3) := by decide +kernel
theorem dX2_has_12 : decode cX2_has 12 = .ok (.iconst 1, 1) := by decide +kernel
theorem dX2_has_13 : decode cX2_has 13 = .ok (.goto 4, 3) := by decide +kernel
theorem dX2_has_16 : decode cX2_has 16 = .ok (.iconst 0, 1) := by decide +kernel
theorem dX2_has_17 : decode cX2_has 17 = .ok (.ireturn, 1) := by decide +kernel
theorem dX2_areTwo_0 : decode cX2_areTwo 0 = .ok (.aload_n 0, 1) := by decide +kernel
theorem dX2_areTwo_1 : decode cX2_areTwo 1 = .ok (.iload_n 1, 1) := by decide +kernel
theorem dX2_areTwo_2 : decode cX2_areTwo 2 = .ok (.invokevirtual 68, 3) := by decide +kernel
theorem dX2_areTwo_5 : decode cX2_areTwo 5 = .ok (.ifCond .eq 20, 3) := by decide +kernel
theorem dX2_areTwo_8 : decode cX2_areTwo 8 = .ok (.aload_n 0, 1) := by decide +kernel
theorem dX2_areTwo_9 : decode cX2_areTwo 9 = .ok (.iload_n 2, 1) := by decide +kernel
theorem dX2_areTwo_10 : decode cX2_areTwo 10 = .ok (.invokevirtual 68, 3) := by decide +kernel
theorem dX2_areTwo_13 : decode cX2_areTwo 13 = .ok (.ifCond .eq 12, 3) := by decide +kernel
theorem dX2_areTwo_16 : decode cX2_areTwo 16 = .ok (.iload_n 1, 1) := by decide +kernel
theorem dX2_areTwo_17 : decode cX2_areTwo 17 = .ok (.iload_n 2, 1) := by decide +kernel
theorem dX2_areTwo_18 : decode cX2_areTwo 18 = .ok (.if_icmp .eq 7, 3) := by decide +kernel
theorem dX2_areTwo_21 : decode cX2_areTwo 21 = .ok (.iconst 1, 1) := by decide +kernel
theorem dX2_areTwo_22 : decode cX2_areTwo 22 = .ok (.goto 4, 3) := by decide +kernel
theorem dX2_areTwo_25 : decode cX2_areTwo 25 = .ok (.iconst 0, 1) := by decide +kernel
theorem dX2_areTwo_26 : decode cX2_areTwo 26 = .ok (.ireturn, 1) := by decide +kernel
theorem dX2_isAwake_0 : decode cX2_isAwake 0 = .ok (.aload_n 0, 1) := by decide +kernel
theorem dX2_isAwake_1 : decode cX2_isAwake 1 = .ok (.iload_n 1, 1) := by decide +kernel
theorem dX2_isAwake_2 : decode cX2_isAwake 2 = .ok (.invokevirtual 68, 3) := by decide +kernel
theorem dX2_isAwake_5 : decode cX2_isAwake 5 = .ok (.ifCond .eq 16, 3) := by decide +kernel
theorem dX2_isAwake_8 : decode cX2_isAwake 8 = .ok (.aload_n 0, 1) := by decide +kernel
theorem dX2_isAwake_9 : decode cX2_isAwake 9 = .ok (.getfield 24, 3) := by decide +kernel
theorem dX2_isAwake_12 : decode cX2_isAwake 12 = .ok (.iload_n 1, 1) := by decide +kernel
theorem dX2_isAwake_13 : decode cX2_isAwake 13 = .ok (.iaload, 1) := by decide +kernel
theorem dX2_isAwake_14 : decode cX2_isAwake 14 = .ok (.ifCond .ne 7, 3) := by decide +kernel
theorem dX2_isAwake_17 : decode cX2_isAwake 17 = .ok (.iconst 1, 1) := by decide +kernel
theorem dX2_isAwake_18 : decode cX2_isAwake 18 = .ok (.goto 4, 3) := by decide +kernel
theorem dX2_isAwake_21 : decode cX2_isAwake 21 = .ok (.iconst 0, 1) := by decide +kernel
theorem dX2_isAwake_22 : decode cX2_isAwake 22 = .ok (.ireturn, 1) := by decide +kernel
theorem dX2_isAsleep_0 : decode cX2_isAsleep 0 = .ok (.aload_n 0, 1) := by decide +kernel
theorem dX2_isAsleep_1 : decode cX2_isAsleep 1 = .ok (.iload_n 1, 1) := by decide +kernel
theorem dX2_isAsleep_2 : decode cX2_isAsleep 2 = .ok (.invokevirtual 68, 3) := by decide +kernel
theorem dX2_isAsleep_5 : decode cX2_isAsleep 5 = .ok (.ifCond .eq 17, 3) := by decide +kernel
theorem dX2_isAsleep_8 : decode cX2_isAsleep 8 = .ok (.aload_n 0, 1) := by decide +kernel
theorem dX2_isAsleep_9 : decode cX2_isAsleep 9 = .ok (.getfield 24, 3) := by decide +kernel
theorem dX2_isAsleep_12 : decode cX2_isAsleep 12 = .ok (.iload_n 1, 1) := by decide +kernel
theorem dX2_isAsleep_13 : decode cX2_isAsleep 13 = .ok (.iaload, 1) := by decide +kernel
theorem dX2_isAsleep_14 : decode cX2_isAsleep 14 = .ok (.iconst 1, 1) := by decide +kernel
theorem dX2_isAsleep_15 : decode cX2_isAsleep 15 = .ok (.if_icmp .ne 7, 3) := by decide +kernel
theorem dX2_isAsleep_18 : decode cX2_isAsleep 18 = .ok (.iconst 1, 1) := by decide +kernel
theorem dX2_isAsleep_19 : decode cX2_isAsleep 19 = .ok (.goto 4, 3) := by decide +kernel
theorem dX2_isAsleep_22 : decode cX2_isAsleep 22 = .ok (.iconst 0, 1) := by decide +kernel
theorem dX2_isAsleep_23 : decode cX2_isAsleep 23 = .ok (.ireturn, 1) := by decide +kernel
theorem dX2_ticksAsleep_0 : decode cX2_ticksAsleep 0 = .ok (.aload_n 0, 1) := by decide +kernel
theorem dX2_ticksAsleep_1 : decode cX2_ticksAsleep 1 = .ok (.getfield 15, 3) := by decide +kernel
theorem dX2_ticksAsleep_4 : decode cX2_ticksAsleep 4 = .ok (.aload_n 0, 1) := by decide +kernel
theorem dX2_ticksAsleep_5 : decode cX2_ticksAsleep 5 = .ok (.getfield 31, 3) := by decide +kernel
theorem dX2_ticksAsleep_8 : decode cX2_ticksAsleep 8 = .ok (.iload_n 1, 1) := by decide +kernel
theorem dX2_ticksAsleep_9 : decode cX2_ticksAsleep 9 = .ok (.iaload, 1) := by decide +kernel
theorem dX2_ticksAsleep_10 : decode cX2_ticksAsleep 10 = .ok (.isub, 1) := by decide +kernel
theorem dX2_ticksAsleep_11 : decode cX2_ticksAsleep 11 = .ok (.ireturn, 1) := by decide +kernel
theorem dX2_howMany_0 : decode cX2_howMany 0 = .ok (.iconst 0, 1) := by decide +kernel
theorem dX2_howMany_1 : decode cX2_howMany 1 = .ok (.istore_n 2, 1) := by decide +kernel
theorem dX2_howMany_2 : decode cX2_howMany 2 = .ok (.iconst 0, 1) := by decide +kernel
theorem dX2_howMany_3 : decode cX2_howMany 3 = .ok (.istore_n 3, 1) := by decide +kernel
theorem dX2_howMany_4 : decode cX2_howMany 4 = .ok (.iload_n 3, 1) := by decide +kernel
theorem dX2_howMany_5 : decode cX2_howMany 5 = .ok (.aload_n 0, 1) := by decide +kernel
theorem dX2_howMany_6 : decode cX2_howMany 6 = .ok (.getfield 9, 3) := by decide +kernel
theorem dX2_howMany_9 : decode cX2_howMany 9 = .ok (.if_icmp .ge 22, 3) := by decide +kernel
theorem dX2_howMany_12 : decode cX2_howMany 12 = .ok (.aload_n 0, 1) := by decide +kernel
theorem dX2_howMany_13 : decode cX2_howMany 13 = .ok (.getfield 24, 3) := by decide +kernel
theorem dX2_howMany_16 : decode cX2_howMany 16 = .ok (.iload_n 3, 1) := by decide +kernel
theorem dX2_howMany_17 : decode cX2_howMany 17 = .ok (.iaload, 1) := by decide +kernel
theorem dX2_howMany_18 : decode cX2_howMany 18 = .ok (.iload_n 1, 1) := by decide +kernel
theorem dX2_howMany_19 : decode cX2_howMany 19 = .ok (.if_icmp .ne 6, 3) := by decide +kernel
theorem dX2_howMany_22 : decode cX2_howMany 22 = .ok (.iinc 2 1, 3) := by decide +kernel
theorem dX2_howMany_25 : decode cX2_howMany 25 = .ok (.iinc 3 1, 3) := by decide +kernel
theorem dX2_howMany_28 : decode cX2_howMany 28 = .ok (.goto (-24), 3) := by decide +kernel
theorem dX2_howMany_31 : decode cX2_howMany 31 = .ok (.iload_n 2, 1) := by decide +kernel
theorem dX2_howMany_32 : decode cX2_howMany 32 = .ok (.ireturn, 1) := by decide +kernel
theorem dX2_allGhosts_0 : decode cX2_allGhosts 0 = .ok (.iconst 0, 1) := by decide +kernel
theorem dX2_allGhosts_1 : decode cX2_allGhosts 1 = .ok (.istore_n 1, 1) := by decide +kernel
theorem dX2_allGhosts_2 : decode cX2_allGhosts 2 = .ok (.iconst 0, 1) := by decide +kernel
theorem dX2_allGhosts_3 : decode cX2_allGhosts 3 = .ok (.istore_n 2, 1) := by decide +kernel
theorem dX2_allGhosts_4 : decode cX2_allGhosts 4 = .ok (.iload_n 2, 1) := by decide +kernel
theorem dX2_allGhosts_5 : decode cX2_allGhosts 5 = .ok (.aload_n 0, 1) := by decide +kernel
theorem dX2_allGhosts_6 : decode cX2_allGhosts 6 = .ok (.getfield 9, 3) := by decide +kernel
theorem dX2_allGhosts_9 : decode cX2_allGhosts 9 = .ok (.if_icmp .ge 18, 3) := by decide +kernel
theorem dX2_allGhosts_12 : decode cX2_allGhosts 12 = .ok (.iload_n 1, 1) := by decide +kernel
theorem dX2_allGhosts_13 : decode cX2_allGhosts 13 = .ok (.aload_n 0, 1) := by decide +kernel
theorem dX2_allGhosts_14 : decode cX2_allGhosts 14 = .ok (.getfield 34, 3) := by decide +kernel
theorem dX2_allGhosts_17 : decode cX2_allGhosts 17 = .ok (.iload_n 2, 1) := by decide +kernel
theorem dX2_allGhosts_18 : decode cX2_allGhosts 18 = .ok (.iaload, 1) := by decide +kernel
theorem dX2_allGhosts_19 : decode cX2_allGhosts 19 = .ok (.iadd, 1) := by decide +kernel
theorem dX2_allGhosts_20 : decode cX2_allGhosts 20 = .ok (.istore_n 1, 1) := by decide +kernel
theorem dX2_allGhosts_21 : decode cX2_allGhosts 21 = .ok (.iinc 2 1, 3) := by decide +kernel
theorem dX2_allGhosts_24 : decode cX2_allGhosts 24 = .ok (.goto (-20), 3) := by decide +kernel
theorem dX2_allGhosts_27 : decode cX2_allGhosts 27 = .ok (.iload_n 1, 1) := by decide +kernel
theorem dX2_allGhosts_28 : decode cX2_allGhosts 28 = .ok (.ireturn, 1) := by decide +kernel
theorem dX2_addVillager_0 : decode cX2_addVillager 0 = .ok (.aload_n 0, 1) := by decide +kernel
theorem dX2_addVillager_1 : decode cX2_addVillager 1 = .ok (.getfield 9, 3) := by decide +kernel
theorem dX2_addVillager_4 : decode cX2_addVillager 4 = .ok (.bipush 7, 2) := by decide +kernel
theorem dX2_addVillager_6 : decode cX2_addVillager 6 = .ok (.if_icmp .lt 6, 3) := by decide +kernel
theorem dX2_addVillager_9 : decode cX2_addVillager 9 = .ok (.ldc 72, 2) := by decide +kernel
theorem dX2_addVillager_11 : decode cX2_addVillager 11 = .ok (.ireturn, 1) := by decide +kernel
theorem dX2_addVillager_12 : decode cX2_addVillager 12 = .ok (.aload_n 0, 1) := by decide +kernel
theorem dX2_addVillager_13 : decode cX2_addVillager 13 = .ok (.dup, 1) := by decide +kernel
theorem dX2_addVillager_14 : decode cX2_addVillager 14 = .ok (.getfield 9, 3) := by decide +kernel
theorem dX2_addVillager_17 : decode cX2_addVillager 17 = .ok (.iconst 1, 1) := by decide +kernel
theorem dX2_addVillager_18 : decode cX2_addVillager 18 = .ok (.iadd, 1) := by decide +kernel
theorem dX2_addVillager_19 : decode cX2_addVillager 19 = .ok (.putfield 9, 3) := by decide +kernel
theorem dX2_addVillager_22 : decode cX2_addVillager 22 = .ok (.aload_n 0, 1) := by decide +kernel
theorem dX2_addVillager_23 : decode cX2_addVillager 23 = .ok (.getfield 9, 3) := by decide +kernel
theorem dX2_addVillager_26 : decode cX2_addVillager 26 = .ok (.iconst 1, 1) := by decide +kernel
theorem dX2_addVillager_27 : decode cX2_addVillager 27 = .ok (.isub, 1) := by decide +kernel
theorem dX2_addVillager_28 : decode cX2_addVillager 28 = .ok (.ireturn, 1) := by decide +kernel
theorem dX2_fallAsleep_0 : decode cX2_fallAsleep 0 = .ok (.aload_n 0, 1) := by decide +kernel
theorem dX2_fallAsleep_1 : decode cX2_fallAsleep 1 = .ok (.iload_n 1, 1) := by decide +kernel
theorem dX2_fallAsleep_2 : decode cX2_fallAsleep 2 = .ok (.invokevirtual 68, 3) := by decide +kernel
theorem dX2_fallAsleep_5 : decode cX2_fallAsleep 5 = .ok (.ifCond .ne 6, 3) := by decide +kernel
theorem dX2_fallAsleep_8 : decode cX2_fallAsleep 8 = .ok (.ldc 73, 2) := by decide +kernel
theorem dX2_fallAsleep_10 : decode cX2_fallAsleep 10 = .ok (.ireturn, 1) := by decide +kernel
theorem dX2_fallAsleep_11 : decode cX2_fallAsleep 11 = .ok (.aload_n 0, 1) := by decide +kernel
theorem dX2_fallAsleep_12 : decode cX2_fallAsleep 12 = .ok (.iload_n 1, 1) := by decide +kernel
theorem dX2_fallAsleep_13 : decode cX2_fallAsleep 13 = .ok (.invokevirtual 74, 3) := by decide +kernel
theorem dX2_fallAsleep_16 : decode cX2_fallAsleep 16 = .ok (.ifCond .ne 6, 3) := by decide +kernel
theorem dX2_fallAsleep_19 : decode cX2_fallAsleep 19 = .ok (.ldc 77, 2) := by decide +kernel
theorem dX2_fallAsleep_21 : decode cX2_fallAsleep 21 = .ok (.ireturn, 1) := by decide +kernel
theorem dX2_fallAsleep_22 : decode cX2_fallAsleep 22 = .ok (.aload_n 0, 1) := by decide +kernel
theorem dX2_fallAsleep_23 : decode cX2_fallAsleep 23 = .ok (.getfield 24, 3) := by decide +kernel
theorem dX2_fallAsleep_26 : decode cX2_fallAsleep 26 = .ok (.iload_n 1, 1) := by decide +kernel
theorem dX2_fallAsleep_27 : decode cX2_fallAsleep 27 = .ok (.iconst 1, 1) := by decide +kernel
theorem dX2_fallAsleep_28 : decode cX2_fallAsleep 28 = .ok (.iastore, 1) := by decide +kernel
theorem dX2_fallAsleep_29 : decode cX2_fallAsleep 29 = .ok (.aload_n 0, 1) := by decide +kernel
theorem dX2_fallAsleep_30 : decode cX2_fallAsleep 30 = .ok (.getfield 31, 3) := by decide +kernel
theorem dX2_fallAsleep_33 : decode cX2_fallAsleep 33 = .ok (.iload_n 1, 1) := by decide +kernel
theorem dX2_fallAsleep_34 : decode cX2_fallAsleep 34 = .ok (.aload_n 0, 1) := by decide +kernel
theorem dX2_fallAsleep_35 : decode cX2_fallAsleep 35 = .ok (.getfield 15, 3) := by decide +kernel
theorem dX2_fallAsleep_38 : decode cX2_fallAsleep 38 = .ok (.iastore, 1) := by decide +kernel
theorem dX2_fallAsleep_39 : decode cX2_fallAsleep 39 = .ok (.aload_n 0, 1) := by decide +kernel
theorem dX2_fallAsleep_40 : decode cX2_fallAsleep 40 = .ok (.iconst 0, 1) := by decide +kernel
theorem dX2_fallAsleep_41 : decode cX2_fallAsleep 41 = .ok (.invokevirtual 78, 3) := by decide +kernel
theorem dX2_fallAsleep_44 : decode cX2_fallAsleep 44 = .ok (.ireturn, 1) := by decide +kernel
theorem dX2_wakeUp_0 : decode cX2_wakeUp 0 = .ok (.aload_n 0, 1) := by decide +kernel
theorem dX2_wakeUp_1 : decode cX2_wakeUp 1 = .ok (.iload_n 1, 1) := by decide +kernel
theorem dX2_wakeUp_2 : decode cX2_wakeUp 2 = .ok (.invokevirtual 68, 3) := by decide +kernel
theorem dX2_wakeUp_5 : decode cX2_wakeUp 5 = .ok (.ifCond .ne 6, 3) := by decide +kernel
theorem dX2_wakeUp_8 : decode cX2_wakeUp 8 = .ok (.ldc 73, 2) := by decide +kernel
theorem dX2_wakeUp_10 : decode cX2_wakeUp 10 = .ok (.ireturn, 1) := by decide +kernel
theorem dX2_wakeUp_11 : decode cX2_wakeUp 11 = .ok (.aload_n 0, 1) := by decide +kernel
theorem dX2_wakeUp_12 : decode cX2_wakeUp 12 = .ok (.iload_n 1, 1) := by decide +kernel
theorem dX2_wakeUp_13 : decode cX2_wakeUp 13 = .ok (.invokevirtual 82, 3) := by decide +kernel
theorem dX2_wakeUp_16 : decode cX2_wakeUp 16 = .ok (.ifCond .ne 6, 3) := by decide +kernel
theorem dX2_wakeUp_19 : decode cX2_wakeUp 19 = .ok (.ldc 77, 2) := by decide +kernel
theorem dX2_wakeUp_21 : decode cX2_wakeUp 21 = .ok (.ireturn, 1) := by decide +kernel
theorem dX2_wakeUp_22 : decode cX2_wakeUp 22 = .ok (.aload_n 0, 1) := by decide +kernel
theorem dX2_wakeUp_23 : decode cX2_wakeUp 23 = .ok (.getfield 24, 3) := by decide +kernel
theorem dX2_wakeUp_26 : decode cX2_wakeUp 26 = .ok (.iload_n 1, 1) := by decide +kernel
theorem dX2_wakeUp_27 : decode cX2_wakeUp 27 = .ok (.iconst 0, 1) := by decide +kernel
theorem dX2_wakeUp_28 : decode cX2_wakeUp 28 = .ok (.iastore, 1) := by decide +kernel
theorem dX2_wakeUp_29 : decode cX2_wakeUp 29 = .ok (.aload_n 0, 1) := by decide +kernel
theorem dX2_wakeUp_30 : decode cX2_wakeUp 30 = .ok (.iload_n 1, 1) := by decide +kernel
theorem dX2_wakeUp_31 : decode cX2_wakeUp 31 = .ok (.invokevirtual 85, 3) := by decide +kernel
theorem dX2_wakeUp_34 : decode cX2_wakeUp 34 = .ok (.ireturn, 1) := by decide +kernel
theorem dX2_goAway_0 : decode cX2_goAway 0 = .ok (.aload_n 0, 1) := by decide +kernel
theorem dX2_goAway_1 : decode cX2_goAway 1 = .ok (.iload_n 1, 1) := by decide +kernel
theorem dX2_goAway_2 : decode cX2_goAway 2 = .ok (.invokevirtual 68, 3) := by decide +kernel
theorem dX2_goAway_5 : decode cX2_goAway 5 = .ok (.ifCond .ne 6, 3) := by decide +kernel
theorem dX2_goAway_8 : decode cX2_goAway 8 = .ok (.ldc 73, 2) := by decide +kernel
theorem dX2_goAway_10 : decode cX2_goAway 10 = .ok (.ireturn, 1) := by decide +kernel
theorem dX2_goAway_11 : decode cX2_goAway 11 = .ok (.aload_n 0, 1) := by decide +kernel
theorem dX2_goAway_12 : decode cX2_goAway 12 = .ok (.getfield 24, 3) := by decide +kernel
theorem dX2_goAway_15 : decode cX2_goAway 15 = .ok (.iload_n 1, 1) := by decide +kernel
theorem dX2_goAway_16 : decode cX2_goAway 16 = .ok (.iaload, 1) := by decide +kernel
theorem dX2_goAway_17 : decode cX2_goAway 17 = .ok (.iconst 2, 1) := by decide +kernel
theorem dX2_goAway_18 : decode cX2_goAway 18 = .ok (.if_icmp .ne 6, 3) := by decide +kernel
theorem dX2_goAway_21 : decode cX2_goAway 21 = .ok (.ldc 77, 2) := by decide +kernel
theorem dX2_goAway_23 : decode cX2_goAway 23 = .ok (.ireturn, 1) := by decide +kernel
theorem dX2_goAway_24 : decode cX2_goAway 24 = .ok (.aload_n 0, 1) := by decide +kernel
theorem dX2_goAway_25 : decode cX2_goAway 25 = .ok (.getfield 24, 3) := by decide +kernel
theorem dX2_goAway_28 : decode cX2_goAway 28 = .ok (.iload_n 1, 1) := by decide +kernel
theorem dX2_goAway_29 : decode cX2_goAway 29 = .ok (.iconst 2, 1) := by decide +kernel
theorem dX2_goAway_30 : decode cX2_goAway 30 = .ok (.iastore, 1) := by decide +kernel
theorem dX2_goAway_31 : decode cX2_goAway 31 = .ok (.iconst 0, 1) := by decide +kernel
theorem dX2_goAway_32 : decode cX2_goAway 32 = .ok (.istore_n 2, 1) := by decide +kernel
theorem dX2_goAway_33 : decode cX2_goAway 33 = .ok (.iload_n 2, 1) := by decide +kernel
theorem dX2_goAway_34 : decode cX2_goAway 34 = .ok (.bipush 12, 2) := by decide +kernel
theorem dX2_goAway_36 : decode cX2_goAway 36 = .ok (.if_icmp .ge 20, 3) := by decide +kernel
theorem dX2_goAway_39 : decode cX2_goAway 39 = .ok (.aload_n 0, 1) := by decide +kernel
theorem dX2_goAway_40 : decode cX2_goAway 40 = .ok (.getfield 37, 3) := by decide +kernel
theorem dX2_goAway_43 : decode cX2_goAway 43 = .ok (.iload_n 1, 1) := by decide +kernel
theorem dX2_goAway_44 : decode cX2_goAway 44 = .ok (.iload_n 2, 1) := by decide +kernel
theorem dX2_goAway_45 : decode cX2_goAway 45 = .ok (.invokestatic 88, 3) := by decide +kernel
theorem dX2_goAway_48 : decode cX2_goAway 48 = .ok (.iconst 0, 1) := by decide +kernel
theorem dX2_goAway_49 : decode cX2_goAway 49 = .ok (.iastore, 1) := by decide +kernel
theorem dX2_goAway_50 : decode cX2_goAway 50 = .ok (.iinc 2 1, 3) := by decide +kernel
theorem dX2_goAway_53 : decode cX2_goAway 53 = .ok (.goto (-20), 3) := by decide +kernel
theorem dX2_goAway_56 : decode cX2_goAway 56 = .ok (.aload_n 0, 1) := by decide +kernel
theorem dX2_goAway_57 : decode cX2_goAway 57 = .ok (.iconst 0, 1) := by decide +kernel
theorem dX2_goAway_58 : decode cX2_goAway 58 = .ok (.invokevirtual 78, 3) := by decide +kernel
theorem dX2_goAway_61 : decode cX2_goAway 61 = .ok (.aload_n 0, 1) := by decide +kernel
theorem dX2_goAway_62 : decode cX2_goAway 62 = .ok (.iconst 1, 1) := by decide +kernel
theorem dX2_goAway_63 : decode cX2_goAway 63 = .ok (.invokevirtual 78, 3) := by decide +kernel
theorem dX2_goAway_66 : decode cX2_goAway 66 = .ok (.iadd, 1) := by decide +kernel
theorem dX2_goAway_67 : decode cX2_goAway 67 = .ok (.ireturn, 1) := by decide +kernel
theorem dX2_changeWatch_0 : decode cX2_changeWatch 0 = .ok (.iload_n 1, 1) := by decide +kernel
theorem dX2_changeWatch_1 : decode cX2_changeWatch 1 = .ok (.iconst 1, 1) := by decide +kernel
theorem dX2_changeWatch_2 : decode cX2_changeWatch 2 = .ok (.if_icmp .lt 9, 3) := by decide +kernel
theorem dX2_changeWatch_5 : decode cX2_changeWatch 5 = .ok (.iload_n 1, 1) := by decide +kernel
theorem dX2_changeWatch_6 : decode cX2_changeWatch 6 = .ok (.bipush 60, 2) := by decide +kernel
theorem dX2_changeWatch_8 : decode cX2_changeWatch 8 = .ok (.if_icmp .le 6, 3) := by decide +kernel
theorem dX2_changeWatch_11 : decode cX2_changeWatch 11 = .ok (.ldc 73, 2) := by decide +kernel
theorem dX2_changeWatch_13 : decode cX2_changeWatch 13 = .ok (.ireturn, 1) := by decide +kernel
theorem dX2_changeWatch_14 : decode cX2_changeWatch 14 = .ok (.aload_n 0, 1) := by decide +kernel
theorem dX2_changeWatch_15 : decode cX2_changeWatch 15 = .ok (.getfield 18, 3) := by decide +kernel
theorem dX2_changeWatch_18 : decode cX2_changeWatch 18 = .ok (.istore_n 2, 1) := by decide +kernel
theorem dX2_changeWatch_19 : decode cX2_changeWatch 19 = .ok (.aload_n 0, 1) := by decide +kernel
theorem dX2_changeWatch_20 : decode cX2_changeWatch 20 = .ok (.iload_n 1, 1) := by decide +kernel
theorem dX2_changeWatch_21 : decode cX2_changeWatch 21 = .ok (.putfield 18, 3) := by decide +kernel
theorem dX2_changeWatch_24 : decode cX2_changeWatch 24 = .ok (.iload_n 2, 1) := by decide +kernel
theorem dX2_changeWatch_25 : decode cX2_changeWatch 25 = .ok (.ireturn, 1) := by decide +kernel
theorem dX2_isTomb_0 : decode cX2_isTomb 0 = .ok (.aload_n 0, 1) := by decide +kernel
theorem dX2_isTomb_1 : decode cX2_isTomb 1 = .ok (.getfield 37, 3) := by decide +kernel
theorem dX2_isTomb_4 : decode cX2_isTomb 4 = .ok (.iload_n 1, 1) := by decide +kernel
theorem dX2_isTomb_5 : decode cX2_isTomb 5 = .ok (.iaload, 1) := by decide +kernel
theorem dX2_isTomb_6 : decode cX2_isTomb 6 = .ok (.ifCond .eq 17, 3) := by decide +kernel
theorem dX2_isTomb_9 : decode cX2_isTomb 9 = .ok (.aload_n 0, 1) := by decide +kernel
theorem dX2_isTomb_10 : decode cX2_isTomb 10 = .ok (.getfield 40, 3) := by decide +kernel
theorem dX2_isTomb_13 : decode cX2_isTomb 13 = .ok (.iload_n 1, 1) := by decide +kernel
theorem dX2_isTomb_14 : decode cX2_isTomb 14 = .ok (.iaload, 1) := by decide +kernel
theorem dX2_isTomb_15 : decode cX2_isTomb 15 = .ok (.iconst 3, 1) := by decide +kernel
theorem dX2_isTomb_16 : decode cX2_isTomb 16 = .ok (.if_icmp .ne 7, 3) := by decide +kernel
theorem dX2_isTomb_19 : decode cX2_isTomb 19 = .ok (.iconst 1, 1) := by decide +kernel
theorem dX2_isTomb_20 : decode cX2_isTomb 20 = .ok (.goto 4, 3) := by decide +kernel
theorem dX2_isTomb_23 : decode cX2_isTomb 23 = .ok (.iconst 0, 1) := by decide +kernel
theorem dX2_isTomb_24 : decode cX2_isTomb 24 = .ok (.ireturn, 1) := by decide +kernel
theorem dX2_isRumor_0 : decode cX2_isRumor 0 = .ok (.aload_n 0, 1) := by decide +kernel
theorem dX2_isRumor_1 : decode cX2_isRumor 1 = .ok (.getfield 37, 3) := by decide +kernel
theorem dX2_isRumor_4 : decode cX2_isRumor 4 = .ok (.iload_n 1, 1) := by decide +kernel
theorem dX2_isRumor_5 : decode cX2_isRumor 5 = .ok (.iaload, 1) := by decide +kernel
theorem dX2_isRumor_6 : decode cX2_isRumor 6 = .ok (.ifCond .eq 17, 3) := by decide +kernel
theorem dX2_isRumor_9 : decode cX2_isRumor 9 = .ok (.aload_n 0, 1) := by decide +kernel
theorem dX2_isRumor_10 : decode cX2_isRumor 10 = .ok (.getfield 40, 3) := by decide +kernel
theorem dX2_isRumor_13 : decode cX2_isRumor 13 = .ok (.iload_n 1, 1) := by decide +kernel
theorem dX2_isRumor_14 : decode cX2_isRumor 14 = .ok (.iaload, 1) := by decide +kernel
theorem dX2_isRumor_15 : decode cX2_isRumor 15 = .ok (.iconst 3, 1) := by decide +kernel
theorem dX2_isRumor_16 : decode cX2_isRumor 16 = .ok (.if_icmp .eq 7, 3) := by decide +kernel
theorem dX2_isRumor_19 : decode cX2_isRumor 19 = .ok (.iconst 1, 1) := by decide +kernel
theorem dX2_isRumor_20 : decode cX2_isRumor 20 = .ok (.goto 4, 3) := by decide +kernel
theorem dX2_isRumor_23 : decode cX2_isRumor 23 = .ok (.iconst 0, 1) := by decide +kernel
theorem dX2_isRumor_24 : decode cX2_isRumor 24 = .ok (.ireturn, 1) := by decide +kernel
theorem dX2_isDead_0 : decode cX2_isDead 0 = .ok (.iload_n 1, 1) := by decide +kernel
theorem dX2_isDead_1 : decode cX2_isDead 1 = .ok (.iload_n 2, 1) := by decide +kernel
theorem dX2_isDead_2 : decode cX2_isDead 2 = .ok (.invokestatic 88, 3) := by decide +kernel
theorem dX2_isDead_5 : decode cX2_isDead 5 = .ok (.istore_n 3, 1) := by decide +kernel
theorem dX2_isDead_6 : decode cX2_isDead 6 = .ok (.aload_n 0, 1) := by decide +kernel
theorem dX2_isDead_7 : decode cX2_isDead 7 = .ok (.iload_n 3, 1) := by decide +kernel
theorem dX2_isDead_8 : decode cX2_isDead 8 = .ok (.invokevirtual 92, 3) := by decide +kernel
theorem dX2_isDead_11 : decode cX2_isDead 11 = .ok (.ifCond .eq 22, 3) := by decide +kernel
theorem dX2_isDead_14 : decode cX2_isDead 14 = .ok (.aload_n 0, 1) := by decide +kernel
theorem dX2_isDead_15 : decode cX2_isDead 15 = .ok (.getfield 37, 3) := by decide +kernel
theorem dX2_isDead_18 : decode cX2_isDead 18 = .ok (.iload_n 3, 1) := by decide +kernel
theorem dX2_isDead_19 : decode cX2_isDead 19 = .ok (.iaload, 1) := by decide +kernel
theorem dX2_isDead_20 : decode cX2_isDead 20 = .ok (.aload_n 0, 1) := by decide +kernel
theorem dX2_isDead_21 : decode cX2_isDead 21 = .ok (.getfield 55, 3) := by decide +kernel
theorem dX2_isDead_24 : decode cX2_isDead 24 = .ok (.iload_n 2, 1) := by decide +kernel
theorem dX2_isDead_25 : decode cX2_isDead 25 = .ok (.iaload, 1) := by decide +kernel
theorem dX2_isDead_26 : decode cX2_isDead 26 = .ok (.if_icmp .ge 7, 3) := by decide +kernel
theorem dX2_isDead_29 : decode cX2_isDead 29 = .ok (.iconst 1, 1) := by decide +kernel
theorem dX2_isDead_30 : decode cX2_isDead 30 = .ok (.goto 4, 3) := by decide +kernel
theorem dX2_isDead_33 : decode cX2_isDead 33 = .ok (.iconst 0, 1) := by decide +kernel
theorem dX2_isDead_34 : decode cX2_isDead 34 = .ok (.ireturn, 1) := by decide +kernel
theorem dX2_author_0 : decode cX2_author 0 = .ok (.aload_n 0, 1) := by decide +kernel
theorem dX2_author_1 : decode cX2_author 1 = .ok (.getfield 37, 3) := by decide +kernel
theorem dX2_author_4 : decode cX2_author 4 = .ok (.iload_n 1, 1) := by decide +kernel
theorem dX2_author_5 : decode cX2_author 5 = .ok (.iaload, 1) := by decide +kernel
theorem dX2_author_6 : decode cX2_author 6 = .ok (.bipush 8, 2) := by decide +kernel
theorem dX2_author_8 : decode cX2_author 8 = .ok (.irem, 1) := by decide +kernel
theorem dX2_author_9 : decode cX2_author 9 = .ok (.ireturn, 1) := by decide +kernel
theorem dX2_rumorTopics_0 : decode cX2_rumorTopics 0 = .ok (.iconst 0, 1) := by decide +kernel
theorem dX2_rumorTopics_1 : decode cX2_rumorTopics 1 = .ok (.istore_n 2, 1) := by decide +kernel
theorem dX2_rumorTopics_2 : decode cX2_rumorTopics 2 = .ok (.iconst 0, 1) := by decide +kernel
theorem dX2_rumorTopics_3 : decode cX2_rumorTopics 3 = .ok (.istore_n 3, 1) := by decide +kernel
theorem dX2_rumorTopics_4 : decode cX2_rumorTopics 4 = .ok (.iload_n 3, 1) := by decide +kernel
theorem dX2_rumorTopics_5 : decode cX2_rumorTopics 5 = .ok (.bipush 12, 2) := by decide +kernel
theorem dX2_rumorTopics_7 : decode cX2_rumorTopics 7 = .ok (.if_icmp .ge 27, 3) := by decide +kernel
theorem dX2_rumorTopics_10 : decode cX2_rumorTopics 10 = .ok (.aload_n 0, 1) := by decide +kernel
theorem dX2_rumorTopics_11 : decode cX2_rumorTopics 11 = .ok (.iload_n 1, 1) := by decide +kernel
theorem dX2_rumorTopics_12 : decode cX2_rumorTopics 12 = .ok (.iload_n 3, 1) := by decide +kernel
theorem dX2_rumorTopics_13 : decode cX2_rumorTopics 13 = .ok (.invokestatic 88, 3) := by decide +kernel
theorem dX2_rumorTopics_16 : decode cX2_rumorTopics 16 = .ok (.invokevirtual 92, 3) := by decide +kernel
theorem dX2_rumorTopics_19 : decode cX2_rumorTopics 19 = .ok (.ifCond .eq 9, 3) := by decide +kernel
theorem dX2_rumorTopics_22 : decode cX2_rumorTopics 22 = .ok (.iload_n 2, 1) := by decide +kernel
theorem dX2_rumorTopics_23 : decode cX2_rumorTopics 23 = .ok (.iconst 1, 1) := by decide +kernel
theorem dX2_rumorTopics_24 : decode cX2_rumorTopics 24 = .ok (.iload_n 3, 1) := by decide +kernel
theorem dX2_rumorTopics_25 : decode cX2_rumorTopics 25 = .ok (.ishl, 1) := by decide +kernel
theorem dX2_rumorTopics_26 : decode cX2_rumorTopics 26 = .ok (.ior, 1) := by decide +kernel
theorem dX2_rumorTopics_27 : decode cX2_rumorTopics 27 = .ok (.istore_n 2, 1) := by decide +kernel
theorem dX2_rumorTopics_28 : decode cX2_rumorTopics 28 = .ok (.iinc 3 1, 3) := by decide +kernel
theorem dX2_rumorTopics_31 : decode cX2_rumorTopics 31 = .ok (.goto (-27), 3) := by decide +kernel
theorem dX2_rumorTopics_34 : decode cX2_rumorTopics 34 = .ok (.iload_n 2, 1) := by decide +kernel
theorem dX2_rumorTopics_35 : decode cX2_rumorTopics 35 = .ok (.ireturn, 1) := by decide +kernel
theorem dX2_tombTopics_0 : decode cX2_tombTopics 0 = .ok (.iconst 0, 1) := by decide +kernel
theorem dX2_tombTopics_1 : decode cX2_tombTopics 1 = .ok (.istore_n 2, 1) := by decide +kernel
theorem dX2_tombTopics_2 : decode cX2_tombTopics 2 = .ok (.iconst 0, 1) := by decide +kernel
theorem dX2_tombTopics_3 : decode cX2_tombTopics 3 = .ok (.istore_n 3, 1) := by decide +kernel
theorem dX2_tombTopics_4 : decode cX2_tombTopics 4 = .ok (.iload_n 3, 1) := by decide +kernel
theorem dX2_tombTopics_5 : decode cX2_tombTopics 5 = .ok (.bipush 12, 2) := by decide +kernel
theorem dX2_tombTopics_7 : decode cX2_tombTopics 7 = .ok (.if_icmp .ge 27, 3) := by decide +kernel
theorem dX2_tombTopics_10 : decode cX2_tombTopics 10 = .ok (.aload_n 0, 1) := by decide +kernel
theorem dX2_tombTopics_11 : decode cX2_tombTopics 11 = .ok (.iload_n 1, 1) := by decide +kernel
theorem dX2_tombTopics_12 : decode cX2_tombTopics 12 = .ok (.iload_n 3, 1) := by decide +kernel
theorem dX2_tombTopics_13 : decode cX2_tombTopics 13 = .ok (.invokestatic 88, 3) := by decide +kernel
theorem dX2_tombTopics_16 : decode cX2_tombTopics 16 = .ok (.invokevirtual 95, 3) := by decide +kernel
theorem dX2_tombTopics_19 : decode cX2_tombTopics 19 = .ok (.ifCond .eq 9, 3) := by decide +kernel
theorem dX2_tombTopics_22 : decode cX2_tombTopics 22 = .ok (.iload_n 2, 1) := by decide +kernel
theorem dX2_tombTopics_23 : decode cX2_tombTopics 23 = .ok (.iconst 1, 1) := by decide +kernel
theorem dX2_tombTopics_24 : decode cX2_tombTopics 24 = .ok (.iload_n 3, 1) := by decide +kernel
theorem dX2_tombTopics_25 : decode cX2_tombTopics 25 = .ok (.ishl, 1) := by decide +kernel
theorem dX2_tombTopics_26 : decode cX2_tombTopics 26 = .ok (.ior, 1) := by decide +kernel
theorem dX2_tombTopics_27 : decode cX2_tombTopics 27 = .ok (.istore_n 2, 1) := by decide +kernel
theorem dX2_tombTopics_28 : decode cX2_tombTopics 28 = .ok (.iinc 3 1, 3) := by decide +kernel
theorem dX2_tombTopics_31 : decode cX2_tombTopics 31 = .ok (.goto (-27), 3) := by decide +kernel
theorem dX2_tombTopics_34 : decode cX2_tombTopics 34 = .ok (.iload_n 2, 1) := by decide +kernel
theorem dX2_tombTopics_35 : decode cX2_tombTopics 35 = .ok (.ireturn, 1) := by decide +kernel
theorem dX2_deadTopics_0 : decode cX2_deadTopics 0 = .ok (.iconst 0, 1) := by decide +kernel
theorem dX2_deadTopics_1 : decode cX2_deadTopics 1 = .ok (.istore_n 2, 1) := by decide +kernel
theorem dX2_deadTopics_2 : decode cX2_deadTopics 2 = .ok (.iconst 0, 1) := by decide +kernel
theorem dX2_deadTopics_3 : decode cX2_deadTopics 3 = .ok (.istore_n 3, 1) := by decide +kernel
theorem dX2_deadTopics_4 : decode cX2_deadTopics 4 = .ok (.iload_n 3, 1) := by decide +kernel
theorem dX2_deadTopics_5 : decode cX2_deadTopics 5 = .ok (.bipush 12, 2) := by decide +kernel
theorem dX2_deadTopics_7 : decode cX2_deadTopics 7 = .ok (.if_icmp .ge 24, 3) := by decide +kernel
theorem dX2_deadTopics_10 : decode cX2_deadTopics 10 = .ok (.aload_n 0, 1) := by decide +kernel
theorem dX2_deadTopics_11 : decode cX2_deadTopics 11 = .ok (.iload_n 1, 1) := by decide +kernel
theorem dX2_deadTopics_12 : decode cX2_deadTopics 12 = .ok (.iload_n 3, 1) := by decide +kernel
theorem dX2_deadTopics_13 : decode cX2_deadTopics 13 = .ok (.invokevirtual 98, 3) := by decide +kernel
theorem dX2_deadTopics_16 : decode cX2_deadTopics 16 = .ok (.ifCond .eq 9, 3) := by decide +kernel
theorem dX2_deadTopics_19 : decode cX2_deadTopics 19 = .ok (.iload_n 2, 1) := by decide +kernel
theorem dX2_deadTopics_20 : decode cX2_deadTopics 20 = .ok (.iconst 1, 1) := by decide +kernel
theorem dX2_deadTopics_21 : decode cX2_deadTopics 21 = .ok (.iload_n 3, 1) := by decide +kernel
theorem dX2_deadTopics_22 : decode cX2_deadTopics 22 = .ok (.ishl, 1) := by decide +kernel
theorem dX2_deadTopics_23 : decode cX2_deadTopics 23 = .ok (.ior, 1) := by decide +kernel
theorem dX2_deadTopics_24 : decode cX2_deadTopics 24 = .ok (.istore_n 2, 1) := by decide +kernel
theorem dX2_deadTopics_25 : decode cX2_deadTopics 25 = .ok (.iinc 3 1, 3) := by decide +kernel
theorem dX2_deadTopics_28 : decode cX2_deadTopics 28 = .ok (.goto (-24), 3) := by decide +kernel
theorem dX2_deadTopics_31 : decode cX2_deadTopics 31 = .ok (.iload_n 2, 1) := by decide +kernel
theorem dX2_deadTopics_32 : decode cX2_deadTopics 32 = .ok (.ireturn, 1) := by decide +kernel
theorem dX2_unlikeTopics_0 : decode cX2_unlikeTopics 0 = .ok (.iconst 0, 1) := by decide +kernel
theorem dX2_unlikeTopics_1 : decode cX2_unlikeTopics 1 = .ok (.istore_n 3, 1) := by decide +kernel
theorem dX2_unlikeTopics_2 : decode cX2_unlikeTopics 2 = .ok (.iconst 0, 1) := by decide +kernel
theorem dX2_unlikeTopics_3 : decode cX2_unlikeTopics 3 = .ok (.istore 4, 2) := by decide +kernel
theorem dX2_unlikeTopics_5 : decode cX2_unlikeTopics 5 = .ok (.iload 4, 2) := by decide +kernel
theorem dX2_unlikeTopics_7 : decode cX2_unlikeTopics 7 = .ok (.bipush 12, 2) := by decide +kernel
theorem dX2_unlikeTopics_9 : decode cX2_unlikeTopics 9 = .ok (.if_icmp .ge 41, 3) := by decide +kernel
theorem dX2_unlikeTopics_12 : decode cX2_unlikeTopics 12 = .ok (.aload_n 0, 1) := by decide +kernel
theorem dX2_unlikeTopics_13 : decode cX2_unlikeTopics 13 = .ok (.getfield 37, 3) := by decide +kernel
theorem dX2_unlikeTopics_16 : decode cX2_unlikeTopics 16 = .ok (.iload_n 1, 1) := by decide +kernel
theorem dX2_unlikeTopics_17 : decode cX2_unlikeTopics 17 = .ok (.iload 4, 2) := by decide +kernel
theorem dX2_unlikeTopics_19 : decode cX2_unlikeTopics 19 = .ok (.invokestatic 88, 3) := by decide +kernel
theorem dX2_unlikeTopics_22 : decode cX2_unlikeTopics 22 = .ok (.iaload, 1) := by decide +kernel
theorem dX2_unlikeTopics_23 : decode cX2_unlikeTopics 23 = .ok (.aload_n 0, 1) := by decide +kernel
theorem dX2_unlikeTopics_24 : decode cX2_unlikeTopics 24 = .ok (.getfield 37, 3) := by decide +kernel
theorem dX2_unlikeTopics_27 : decode cX2_unlikeTopics 27 = .ok (.iload_n 2, 1) := by decide +kernel
theorem dX2_unlikeTopics_28 : decode cX2_unlikeTopics 28 = .ok (.iload 4, 2) := by decide +kernel
theorem dX2_unlikeTopics_30 : decode cX2_unlikeTopics 30 = .ok (.invokestatic 88, 3) := by decide +kernel
theorem dX2_unlikeTopics_33 : decode cX2_unlikeTopics 33 = .ok (.iaload, 1) := by decide +kernel
theorem dX2_unlikeTopics_34 : decode cX2_unlikeTopics 34 = .ok (.if_icmp .eq 10, 3) := by decide +kernel
theorem dX2_unlikeTopics_37 : decode cX2_unlikeTopics 37 = .ok (.iload_n 3, 1) := by decide +kernel
theorem dX2_unlikeTopics_38 : decode cX2_unlikeTopics 38 = .ok (.iconst 1, 1) := by decide +kernel
theorem dX2_unlikeTopics_39 : decode cX2_unlikeTopics 39 = .ok (.iload 4, 2) := by decide +kernel
theorem dX2_unlikeTopics_41 : decode cX2_unlikeTopics 41 = .ok (.ishl, 1) := by decide +kernel
theorem dX2_unlikeTopics_42 : decode cX2_unlikeTopics 42 = .ok (.ior, 1) := by decide +kernel
theorem dX2_unlikeTopics_43 : decode cX2_unlikeTopics 43 = .ok (.istore_n 3, 1) := by decide +kernel
theorem dX2_unlikeTopics_44 : decode cX2_unlikeTopics 44 = .ok (.iinc 4 1, 3) := by decide +kernel
theorem dX2_unlikeTopics_47 : decode cX2_unlikeTopics 47 = .ok (.goto (-42), 3) := by decide +kernel
theorem dX2_unlikeTopics_50 : decode cX2_unlikeTopics 50 = .ok (.iload_n 3, 1) := by decide +kernel
theorem dX2_unlikeTopics_51 : decode cX2_unlikeTopics 51 = .ok (.ireturn, 1) := by decide +kernel
theorem dX2_allRumors_0 : decode cX2_allRumors 0 = .ok (.iconst 0, 1) := by decide +kernel
theorem dX2_allRumors_1 : decode cX2_allRumors 1 = .ok (.istore_n 1, 1) := by decide +kernel
theorem dX2_allRumors_2 : decode cX2_allRumors 2 = .ok (.iconst 0, 1) := by decide +kernel
theorem dX2_allRumors_3 : decode cX2_allRumors 3 = .ok (.istore_n 2, 1) := by decide +kernel
theorem dX2_allRumors_4 : decode cX2_allRumors 4 = .ok (.iload_n 2, 1) := by decide +kernel
theorem dX2_allRumors_5 : decode cX2_allRumors 5 = .ok (.aload_n 0, 1) := by decide +kernel
theorem dX2_allRumors_6 : decode cX2_allRumors 6 = .ok (.getfield 9, 3) := by decide +kernel
theorem dX2_allRumors_9 : decode cX2_allRumors 9 = .ok (.if_icmp .ge 20, 3) := by decide +kernel
theorem dX2_allRumors_12 : decode cX2_allRumors 12 = .ok (.iload_n 1, 1) := by decide +kernel
theorem dX2_allRumors_13 : decode cX2_allRumors 13 = .ok (.aload_n 0, 1) := by decide +kernel
theorem dX2_allRumors_14 : decode cX2_allRumors 14 = .ok (.iload_n 2, 1) := by decide +kernel
theorem dX2_allRumors_15 : decode cX2_allRumors 15 = .ok (.invokevirtual 102, 3) := by decide +kernel
theorem dX2_allRumors_18 : decode cX2_allRumors 18 = .ok (.invokestatic 105, 3) := by decide +kernel
theorem dX2_allRumors_21 : decode cX2_allRumors 21 = .ok (.iadd, 1) := by decide +kernel
theorem dX2_allRumors_22 : decode cX2_allRumors 22 = .ok (.istore_n 1, 1) := by decide +kernel
theorem dX2_allRumors_23 : decode cX2_allRumors 23 = .ok (.iinc 2 1, 3) := by decide +kernel
theorem dX2_allRumors_26 : decode cX2_allRumors 26 = .ok (.goto (-22), 3) := by decide +kernel
theorem dX2_allRumors_29 : decode cX2_allRumors 29 = .ok (.iload_n 1, 1) := by decide +kernel
theorem dX2_allRumors_30 : decode cX2_allRumors 30 = .ok (.ireturn, 1) := by decide +kernel
theorem dX2_allTombs_0 : decode cX2_allTombs 0 = .ok (.iconst 0, 1) := by decide +kernel
theorem dX2_allTombs_1 : decode cX2_allTombs 1 = .ok (.istore_n 1, 1) := by decide +kernel
theorem dX2_allTombs_2 : decode cX2_allTombs 2 = .ok (.iconst 0, 1) := by decide +kernel
theorem dX2_allTombs_3 : decode cX2_allTombs 3 = .ok (.istore_n 2, 1) := by decide +kernel
theorem dX2_allTombs_4 : decode cX2_allTombs 4 = .ok (.iload_n 2, 1) := by decide +kernel
theorem dX2_allTombs_5 : decode cX2_allTombs 5 = .ok (.aload_n 0, 1) := by decide +kernel
theorem dX2_allTombs_6 : decode cX2_allTombs 6 = .ok (.getfield 9, 3) := by decide +kernel
theorem dX2_allTombs_9 : decode cX2_allTombs 9 = .ok (.if_icmp .ge 20, 3) := by decide +kernel
theorem dX2_allTombs_12 : decode cX2_allTombs 12 = .ok (.iload_n 1, 1) := by decide +kernel
theorem dX2_allTombs_13 : decode cX2_allTombs 13 = .ok (.aload_n 0, 1) := by decide +kernel
theorem dX2_allTombs_14 : decode cX2_allTombs 14 = .ok (.iload_n 2, 1) := by decide +kernel
theorem dX2_allTombs_15 : decode cX2_allTombs 15 = .ok (.invokevirtual 110, 3) := by decide +kernel
theorem dX2_allTombs_18 : decode cX2_allTombs 18 = .ok (.invokestatic 105, 3) := by decide +kernel
theorem dX2_allTombs_21 : decode cX2_allTombs 21 = .ok (.iadd, 1) := by decide +kernel
theorem dX2_allTombs_22 : decode cX2_allTombs 22 = .ok (.istore_n 1, 1) := by decide +kernel
theorem dX2_allTombs_23 : decode cX2_allTombs 23 = .ok (.iinc 2 1, 3) := by decide +kernel
theorem dX2_allTombs_26 : decode cX2_allTombs 26 = .ok (.goto (-22), 3) := by decide +kernel
theorem dX2_allTombs_29 : decode cX2_allTombs 29 = .ok (.iload_n 1, 1) := by decide +kernel
theorem dX2_allTombs_30 : decode cX2_allTombs 30 = .ok (.ireturn, 1) := by decide +kernel
theorem dX2_allDead_0 : decode cX2_allDead 0 = .ok (.iconst 0, 1) := by decide +kernel
theorem dX2_allDead_1 : decode cX2_allDead 1 = .ok (.istore_n 1, 1) := by decide +kernel
theorem dX2_allDead_2 : decode cX2_allDead 2 = .ok (.iconst 0, 1) := by decide +kernel
theorem dX2_allDead_3 : decode cX2_allDead 3 = .ok (.istore_n 2, 1) := by decide +kernel
theorem dX2_allDead_4 : decode cX2_allDead 4 = .ok (.iload_n 2, 1) := by decide +kernel
theorem dX2_allDead_5 : decode cX2_allDead 5 = .ok (.aload_n 0, 1) := by decide +kernel
theorem dX2_allDead_6 : decode cX2_allDead 6 = .ok (.getfield 9, 3) := by decide +kernel
theorem dX2_allDead_9 : decode cX2_allDead 9 = .ok (.if_icmp .ge 20, 3) := by decide +kernel
theorem dX2_allDead_12 : decode cX2_allDead 12 = .ok (.iload_n 1, 1) := by decide +kernel
theorem dX2_allDead_13 : decode cX2_allDead 13 = .ok (.aload_n 0, 1) := by decide +kernel
theorem dX2_allDead_14 : decode cX2_allDead 14 = .ok (.iload_n 2, 1) := by decide +kernel
theorem dX2_allDead_15 : decode cX2_allDead 15 = .ok (.invokevirtual 113, 3) := by decide +kernel
theorem dX2_allDead_18 : decode cX2_allDead 18 = .ok (.invokestatic 105, 3) := by decide +kernel
theorem dX2_allDead_21 : decode cX2_allDead 21 = .ok (.iadd, 1) := by decide +kernel
theorem dX2_allDead_22 : decode cX2_allDead 22 = .ok (.istore_n 1, 1) := by decide +kernel
theorem dX2_allDead_23 : decode cX2_allDead 23 = .ok (.iinc 2 1, 3) := by decide +kernel
theorem dX2_allDead_26 : decode cX2_allDead 26 = .ok (.goto (-22), 3) := by decide +kernel
theorem dX2_allDead_29 : decode cX2_allDead 29 = .ok (.iload_n 1, 1) := by decide +kernel
theorem dX2_allDead_30 : decode cX2_allDead 30 = .ok (.ireturn, 1) := by decide +kernel
theorem dX2_holdersOfNewest_0 : decode cX2_holdersOfNewest 0 = .ok (.iconst 0, 1) := by decide +kernel
theorem dX2_holdersOfNewest_1 : decode cX2_holdersOfNewest 1 = .ok (.istore_n 2, 1) := by decide +kernel
theorem dX2_holdersOfNewest_2 : decode cX2_holdersOfNewest 2 = .ok (.iconst 0, 1) := by decide +kernel
theorem dX2_holdersOfNewest_3 : decode cX2_holdersOfNewest 3 = .ok (.istore_n 3, 1) := by decide +kernel
theorem dX2_holdersOfNewest_4 : decode cX2_holdersOfNewest 4 = .ok (.iconst 0, 1) := by decide +kernel
theorem dX2_holdersOfNewest_5 : decode cX2_holdersOfNewest 5 = .ok (.istore 4, 2) := by decide +kernel
theorem dX2_holdersOfNewest_7 : decode cX2_holdersOfNewest 7 = .ok (.iload 4, 2) := by decide +kernel
theorem dX2_holdersOfNewest_9 : decode cX2_holdersOfNewest 9 = .ok (.aload_n 0, 1) := by decide +kernel
theorem dX2_holdersOfNewest_10 : decode cX2_holdersOfNewest 10 = .ok (.getfield 9, 3) := by decide +kernel
theorem dX2_holdersOfNewest_13 : decode cX2_holdersOfNewest 13 = .ok (.if_icmp .ge 51, 3) := by decide +kernel
theorem dX2_holdersOfNewest_16 : decode cX2_holdersOfNewest 16 = .ok (.aload_n 0, 1) := by decide +kernel
theorem dX2_holdersOfNewest_17 : decode cX2_holdersOfNewest 17 = .ok (.getfield 37, 3) := by decide +kernel
theorem dX2_holdersOfNewest_20 : decode cX2_holdersOfNewest 20 = .ok (.iload 4, 2) := by decide +kernel
theorem dX2_holdersOfNewest_22 : decode cX2_holdersOfNewest 22 = .ok (.iload_n 1, 1) := by decide +kernel
theorem dX2_holdersOfNewest_23 : decode cX2_holdersOfNewest 23 = .ok (.invokestatic 88, 3) := by decide +kernel
theorem dX2_holdersOfNewest_26 : decode cX2_holdersOfNewest 26 = .ok (.iaload, 1) := by decide +kernel
theorem dX2_holdersOfNewest_27 : decode cX2_holdersOfNewest 27 = .ok (.istore 5, 2) := by decide +kernel
theorem dX2_holdersOfNewest_29 : decode cX2_holdersOfNewest 29 = .ok (.iload 5, 2) := by decide +kernel
theorem dX2_holdersOfNewest_31 : decode cX2_holdersOfNewest 31 = .ok (.iload_n 2, 1) := by decide +kernel
theorem dX2_holdersOfNewest_32 : decode cX2_holdersOfNewest 32 = .ok (.if_icmp .le 8, 3) := by decide +kernel
theorem dX2_holdersOfNewest_35 : decode cX2_holdersOfNewest 35 = .ok (.iload 5, 2) := by decide +kernel
theorem dX2_holdersOfNewest_37 : decode cX2_holdersOfNewest 37 = .ok (.istore_n 2, 1) := by decide +kernel
theorem dX2_holdersOfNewest_38 : decode cX2_holdersOfNewest 38 = .ok (.iconst 0, 1) := by decide +kernel
theorem dX2_holdersOfNewest_39 : decode cX2_holdersOfNewest 39 = .ok (.istore_n 3, 1) := by decide +kernel
theorem dX2_holdersOfNewest_40 : decode cX2_holdersOfNewest 40 = .ok (.iload 5, 2) := by decide +kernel
theorem dX2_holdersOfNewest_42 : decode cX2_holdersOfNewest 42 = .ok (.ifCond .eq 16, 3) := by decide +kernel
theorem dX2_holdersOfNewest_45 : decode cX2_holdersOfNewest 45 = .ok (.iload 5, 2) := by decide +kernel
theorem dX2_holdersOfNewest_47 : decode cX2_holdersOfNewest 47 = .ok (.iload_n 2, 1) := by decide +kernel
theorem dX2_holdersOfNewest_48 : decode cX2_holdersOfNewest 48 = .ok (.if_icmp .ne 10, 3) := by decide +kernel
theorem dX2_holdersOfNewest_51 : decode cX2_holdersOfNewest 51 = .ok (.iload_n 3, 1) := by decide +kernel
theorem dX2_holdersOfNewest_52 : decode cX2_holdersOfNewest 52 = .ok (.iconst 1, 1) := by decide +kernel
theorem dX2_holdersOfNewest_53 : decode cX2_holdersOfNewest 53 = .ok (.iload 4, 2) := by decide +kernel
theorem dX2_holdersOfNewest_55 : decode cX2_holdersOfNewest 55 = .ok (.ishl, 1) := by decide +kernel
theorem dX2_holdersOfNewest_56 : decode cX2_holdersOfNewest 56 = .ok (.ior, 1) := by decide +kernel
theorem dX2_holdersOfNewest_57 : decode cX2_holdersOfNewest 57 = .ok (.istore_n 3, 1) := by decide +kernel
theorem dX2_holdersOfNewest_58 : decode cX2_holdersOfNewest 58 = .ok (.iinc 4 1, 3) := by decide +kernel
theorem dX2_holdersOfNewest_61 : decode cX2_holdersOfNewest 61 = .ok (.goto (-54), 3) := by decide +kernel
theorem dX2_holdersOfNewest_64 : decode cX2_holdersOfNewest 64 = .ok (.iload_n 3, 1) := by decide +kernel
theorem dX2_holdersOfNewest_65 : decode cX2_holdersOfNewest 65 = .ok (.ireturn, 1) := by decide +kernel
theorem dX2_makeRumor_0 : decode cX2_makeRumor 0 = .ok (.aload_n 0, 1) := by decide +kernel
theorem dX2_makeRumor_1 : decode cX2_makeRumor 1 = .ok (.iload_n 1, 1) := by decide +kernel
theorem dX2_makeRumor_2 : decode cX2_makeRumor 2 = .ok (.invokevirtual 68, 3) := by decide +kernel
theorem dX2_makeRumor_5 : decode cX2_makeRumor 5 = .ok (.ifCond .eq 31, 3) := by decide +kernel
theorem dX2_makeRumor_8 : decode cX2_makeRumor 8 = .ok (.iload_n 2, 1) := by decide +kernel
theorem dX2_makeRumor_9 : decode cX2_makeRumor 9 = .ok (.invokestatic 116, 3) := by decide +kernel
theorem dX2_makeRumor_12 : decode cX2_makeRumor 12 = .ok (.ifCond .eq 24, 3) := by decide +kernel
theorem dX2_makeRumor_15 : decode cX2_makeRumor 15 = .ok (.iload_n 3, 1) := by decide +kernel
theorem dX2_makeRumor_16 : decode cX2_makeRumor 16 = .ok (.ifCond .lt 20, 3) := by decide +kernel
theorem dX2_makeRumor_19 : decode cX2_makeRumor 19 = .ok (.iload_n 3, 1) := by decide +kernel
theorem dX2_makeRumor_20 : decode cX2_makeRumor 20 = .ok (.bipush 99, 2) := by decide +kernel
theorem dX2_makeRumor_22 : decode cX2_makeRumor 22 = .ok (.if_icmp .gt 14, 3) := by decide +kernel
theorem dX2_makeRumor_25 : decode cX2_makeRumor 25 = .ok (.iload 4, 2) := by decide +kernel
theorem dX2_makeRumor_27 : decode cX2_makeRumor 27 = .ok (.ifCond .lt 9, 3) := by decide +kernel
theorem dX2_makeRumor_30 : decode cX2_makeRumor 30 = .ok (.iload 4, 2) := by decide +kernel
theorem dX2_makeRumor_32 : decode cX2_makeRumor 32 = .ok (.iconst 2, 1) := by decide +kernel
theorem dX2_makeRumor_33 : decode cX2_makeRumor 33 = .ok (.if_icmp .le 6, 3) := by decide +kernel
theorem dX2_makeRumor_36 : decode cX2_makeRumor 36 = .ok (.ldc 73, 2) := by decide +kernel
theorem dX2_makeRumor_38 : decode cX2_makeRumor 38 = .ok (.ireturn, 1) := by decide +kernel
theorem dX2_makeRumor_39 : decode cX2_makeRumor 39 = .ok (.aload_n 0, 1) := by decide +kernel
theorem dX2_makeRumor_40 : decode cX2_makeRumor 40 = .ok (.iload_n 1, 1) := by decide +kernel
theorem dX2_makeRumor_41 : decode cX2_makeRumor 41 = .ok (.invokevirtual 74, 3) := by decide +kernel
theorem dX2_makeRumor_44 : decode cX2_makeRumor 44 = .ok (.ifCond .ne 6, 3) := by decide +kernel
theorem dX2_makeRumor_47 : decode cX2_makeRumor 47 = .ok (.ldc 77, 2) := by decide +kernel
theorem dX2_makeRumor_49 : decode cX2_makeRumor 49 = .ok (.ireturn, 1) := by decide +kernel
theorem dX2_makeRumor_50 : decode cX2_makeRumor 50 = .ok (.iload_n 1, 1) := by decide +kernel
theorem dX2_makeRumor_51 : decode cX2_makeRumor 51 = .ok (.iload_n 2, 1) := by decide +kernel
theorem dX2_makeRumor_52 : decode cX2_makeRumor 52 = .ok (.invokestatic 88, 3) := by decide +kernel
theorem dX2_makeRumor_55 : decode cX2_makeRumor 55 = .ok (.istore 5, 2) := by decide +kernel
theorem dX2_makeRumor_57 : decode cX2_makeRumor 57 = .ok (.aload_n 0, 1) := by decide +kernel
theorem dX2_makeRumor_58 : decode cX2_makeRumor 58 = .ok (.iload_n 1, 1) := by decide +kernel
theorem dX2_makeRumor_59 : decode cX2_makeRumor 59 = .ok (.iload 5, 2) := by decide +kernel
theorem dX2_makeRumor_61 : decode cX2_makeRumor 61 = .ok (.iload 4, 2) := by decide +kernel
theorem dX2_makeRumor_63 : decode cX2_makeRumor 63 = .ok (.invokevirtual 119, 3) := by decide +kernel
theorem dX2_makeRumor_66 : decode cX2_makeRumor 66 = .ok (.aload_n 0, 1) := by decide +kernel
theorem dX2_makeRumor_67 : decode cX2_makeRumor 67 = .ok (.getfield 43, 3) := by decide +kernel
theorem dX2_makeRumor_70 : decode cX2_makeRumor 70 = .ok (.iload 5, 2) := by decide +kernel
theorem dX2_makeRumor_72 : decode cX2_makeRumor 72 = .ok (.iload_n 3, 1) := by decide +kernel
theorem dX2_makeRumor_73 : decode cX2_makeRumor 73 = .ok (.iastore, 1) := by decide +kernel
theorem dX2_makeRumor_74 : decode cX2_makeRumor 74 = .ok (.aload_n 0, 1) := by decide +kernel
theorem dX2_makeRumor_75 : decode cX2_makeRumor 75 = .ok (.getfield 28, 3) := by decide +kernel
theorem dX2_makeRumor_78 : decode cX2_makeRumor 78 = .ok (.iload_n 1, 1) := by decide +kernel
theorem dX2_makeRumor_79 : decode cX2_makeRumor 79 = .ok (.iaload, 1) := by decide +kernel
theorem dX2_makeRumor_80 : decode cX2_makeRumor 80 = .ok (.ireturn, 1) := by decide +kernel
theorem dX2_makeTomb_0 : decode cX2_makeTomb 0 = .ok (.aload_n 0, 1) := by decide +kernel
theorem dX2_makeTomb_1 : decode cX2_makeTomb 1 = .ok (.iload_n 1, 1) := by decide +kernel
theorem dX2_makeTomb_2 : decode cX2_makeTomb 2 = .ok (.invokevirtual 68, 3) := by decide +kernel
theorem dX2_makeTomb_5 : decode cX2_makeTomb 5 = .ok (.ifCond .eq 10, 3) := by decide +kernel
theorem dX2_makeTomb_8 : decode cX2_makeTomb 8 = .ok (.iload_n 2, 1) := by decide +kernel
theorem dX2_makeTomb_9 : decode cX2_makeTomb 9 = .ok (.invokestatic 116, 3) := by decide +kernel
theorem dX2_makeTomb_12 : decode cX2_makeTomb 12 = .ok (.ifCond .ne 6, 3) := by decide +kernel
theorem dX2_makeTomb_15 : decode cX2_makeTomb 15 = .ok (.ldc 73, 2) := by decide +kernel
theorem dX2_makeTomb_17 : decode cX2_makeTomb 17 = .ok (.ireturn, 1) := by decide +kernel
theorem dX2_makeTomb_18 : decode cX2_makeTomb 18 = .ok (.iload_n 1, 1) := by decide +kernel
theorem dX2_makeTomb_19 : decode cX2_makeTomb 19 = .ok (.iload_n 2, 1) := by decide +kernel
theorem dX2_makeTomb_20 : decode cX2_makeTomb 20 = .ok (.invokestatic 88, 3) := by decide +kernel
theorem dX2_makeTomb_23 : decode cX2_makeTomb 23 = .ok (.istore_n 3, 1) := by decide +kernel
theorem dX2_makeTomb_24 : decode cX2_makeTomb 24 = .ok (.aload_n 0, 1) := by decide +kernel
theorem dX2_makeTomb_25 : decode cX2_makeTomb 25 = .ok (.iload_n 1, 1) := by decide +kernel
theorem dX2_makeTomb_26 : decode cX2_makeTomb 26 = .ok (.invokevirtual 74, 3) := by decide +kernel
theorem dX2_makeTomb_29 : decode cX2_makeTomb 29 = .ok (.ifCond .eq 11, 3) := by decide +kernel
theorem dX2_makeTomb_32 : decode cX2_makeTomb 32 = .ok (.aload_n 0, 1) := by decide +kernel
theorem dX2_makeTomb_33 : decode cX2_makeTomb 33 = .ok (.iload_n 3, 1) := by decide +kernel
theorem dX2_makeTomb_34 : decode cX2_makeTomb 34 = .ok (.invokevirtual 92, 3) := by decide +kernel
theorem dX2_makeTomb_37 : decode cX2_makeTomb 37 = .ok (.ifCond .ne 6, 3) := by decide +kernel
theorem dX2_makeTomb_40 : decode cX2_makeTomb 40 = .ok (.ldc 77, 2) := by decide +kernel
theorem dX2_makeTomb_42 : decode cX2_makeTomb 42 = .ok (.ireturn, 1) := by decide +kernel
theorem dX2_makeTomb_43 : decode cX2_makeTomb 43 = .ok (.aload_n 0, 1) := by decide +kernel
theorem dX2_makeTomb_44 : decode cX2_makeTomb 44 = .ok (.iload_n 1, 1) := by decide +kernel
theorem dX2_makeTomb_45 : decode cX2_makeTomb 45 = .ok (.iload_n 3, 1) := by decide +kernel
theorem dX2_makeTomb_46 : decode cX2_makeTomb 46 = .ok (.iconst 3, 1) := by decide +kernel
theorem dX2_makeTomb_47 : decode cX2_makeTomb 47 = .ok (.invokevirtual 119, 3) := by decide +kernel
theorem dX2_makeTomb_50 : decode cX2_makeTomb 50 = .ok (.aload_n 0, 1) := by decide +kernel
theorem dX2_makeTomb_51 : decode cX2_makeTomb 51 = .ok (.getfield 46, 3) := by decide +kernel
theorem dX2_makeTomb_54 : decode cX2_makeTomb 54 = .ok (.iload_n 3, 1) := by decide +kernel
theorem dX2_makeTomb_55 : decode cX2_makeTomb 55 = .ok (.aload_n 0, 1) := by decide +kernel
theorem dX2_makeTomb_56 : decode cX2_makeTomb 56 = .ok (.getfield 15, 3) := by decide +kernel
theorem dX2_makeTomb_59 : decode cX2_makeTomb 59 = .ok (.iastore, 1) := by decide +kernel
theorem dX2_makeTomb_60 : decode cX2_makeTomb 60 = .ok (.aload_n 0, 1) := by decide +kernel
theorem dX2_makeTomb_61 : decode cX2_makeTomb 61 = .ok (.getfield 49, 3) := by decide +kernel
theorem dX2_makeTomb_64 : decode cX2_makeTomb 64 = .ok (.iload_n 3, 1) := by decide +kernel
theorem dX2_makeTomb_65 : decode cX2_makeTomb 65 = .ok (.iconst 1, 1) := by decide +kernel
theorem dX2_makeTomb_66 : decode cX2_makeTomb 66 = .ok (.iload_n 1, 1) := by decide +kernel
theorem dX2_makeTomb_67 : decode cX2_makeTomb 67 = .ok (.ishl, 1) := by decide +kernel
theorem dX2_makeTomb_68 : decode cX2_makeTomb 68 = .ok (.iastore, 1) := by decide +kernel
theorem dX2_makeTomb_69 : decode cX2_makeTomb 69 = .ok (.aload_n 0, 1) := by decide +kernel
theorem dX2_makeTomb_70 : decode cX2_makeTomb 70 = .ok (.getfield 55, 3) := by decide +kernel
theorem dX2_makeTomb_73 : decode cX2_makeTomb 73 = .ok (.iload_n 2, 1) := by decide +kernel
theorem dX2_makeTomb_74 : decode cX2_makeTomb 74 = .ok (.aload_n 0, 1) := by decide +kernel
theorem dX2_makeTomb_75 : decode cX2_makeTomb 75 = .ok (.getfield 55, 3) := by decide +kernel
theorem dX2_makeTomb_78 : decode cX2_makeTomb 78 = .ok (.iload_n 2, 1) := by decide +kernel
theorem dX2_makeTomb_79 : decode cX2_makeTomb 79 = .ok (.iaload, 1) := by decide +kernel
theorem dX2_makeTomb_80 : decode cX2_makeTomb 80 = .ok (.aload_n 0, 1) := by decide +kernel
theorem dX2_makeTomb_81 : decode cX2_makeTomb 81 = .ok (.getfield 37, 3) := by decide +kernel
theorem dX2_makeTomb_84 : decode cX2_makeTomb 84 = .ok (.iload_n 3, 1) := by decide +kernel
theorem dX2_makeTomb_85 : decode cX2_makeTomb 85 = .ok (.iaload, 1) := by decide +kernel
theorem dX2_makeTomb_86 : decode cX2_makeTomb 86 = .ok (.invokestatic 123, 3) := by decide +kernel
theorem dX2_makeTomb_89 : decode cX2_makeTomb 89 = .ok (.iastore, 1) := by decide +kernel
theorem dX2_makeTomb_90 : decode cX2_makeTomb 90 = .ok (.aload_n 0, 1) := by decide +kernel
theorem dX2_makeTomb_91 : decode cX2_makeTomb 91 = .ok (.dup, 1) := by decide +kernel
theorem dX2_makeTomb_92 : decode cX2_makeTomb 92 = .ok (.getfield 21, 3) := by decide +kernel
theorem dX2_makeTomb_95 : decode cX2_makeTomb 95 = .ok (.iconst 1, 1) := by decide +kernel
theorem dX2_makeTomb_96 : decode cX2_makeTomb 96 = .ok (.iadd, 1) := by decide +kernel
theorem dX2_makeTomb_97 : decode cX2_makeTomb 97 = .ok (.putfield 21, 3) := by decide +kernel
theorem dX2_makeTomb_100 : decode cX2_makeTomb 100 = .ok (.aload_n 0, 1) := by decide +kernel
theorem dX2_makeTomb_101 : decode cX2_makeTomb 101 = .ok (.getfield 28, 3) := by decide +kernel
theorem dX2_makeTomb_104 : decode cX2_makeTomb 104 = .ok (.iload_n 1, 1) := by decide +kernel
theorem dX2_makeTomb_105 : decode cX2_makeTomb 105 = .ok (.iaload, 1) := by decide +kernel
theorem dX2_makeTomb_106 : decode cX2_makeTomb 106 = .ok (.ireturn, 1) := by decide +kernel
theorem dX2_write_0 : decode cX2_write 0 = .ok (.aload_n 0, 1) := by decide +kernel
theorem dX2_write_1 : decode cX2_write 1 = .ok (.getfield 28, 3) := by decide +kernel
theorem dX2_write_4 : decode cX2_write 4 = .ok (.iload_n 1, 1) := by decide +kernel
theorem dX2_write_5 : decode cX2_write 5 = .ok (.dup2, 1) := by decide +kernel
theorem dX2_write_6 : decode cX2_write 6 = .ok (.iaload, 1) := by decide +kernel
theorem dX2_write_7 : decode cX2_write 7 = .ok (.iconst 1, 1) := by decide +kernel
theorem dX2_write_8 : decode cX2_write 8 = .ok (.iadd, 1) := by decide +kernel
theorem dX2_write_9 : decode cX2_write 9 = .ok (.iastore, 1) := by decide +kernel
theorem dX2_write_10 : decode cX2_write 10 = .ok (.aload_n 0, 1) := by decide +kernel
theorem dX2_write_11 : decode cX2_write 11 = .ok (.getfield 37, 3) := by decide +kernel
theorem dX2_write_14 : decode cX2_write 14 = .ok (.iload_n 2, 1) := by decide +kernel
theorem dX2_write_15 : decode cX2_write 15 = .ok (.aload_n 0, 1) := by decide +kernel
theorem dX2_write_16 : decode cX2_write 16 = .ok (.getfield 28, 3) := by decide +kernel
theorem dX2_write_19 : decode cX2_write 19 = .ok (.iload_n 1, 1) := by decide +kernel
theorem dX2_write_20 : decode cX2_write 20 = .ok (.iaload, 1) := by decide +kernel
theorem dX2_write_21 : decode cX2_write 21 = .ok (.bipush 8, 2) := by decide +kernel
theorem dX2_write_23 : decode cX2_write 23 = .ok (.imul, 1) := by decide +kernel
theorem dX2_write_24 : decode cX2_write 24 = .ok (.iload_n 1, 1) := by decide +kernel
theorem dX2_write_25 : decode cX2_write 25 = .ok (.iadd, 1) := by decide +kernel
theorem dX2_write_26 : decode cX2_write 26 = .ok (.iastore, 1) := by decide +kernel
theorem dX2_write_27 : decode cX2_write 27 = .ok (.aload_n 0, 1) := by decide +kernel
theorem dX2_write_28 : decode cX2_write 28 = .ok (.getfield 40, 3) := by decide +kernel
theorem dX2_write_31 : decode cX2_write 31 = .ok (.iload_n 2, 1) := by decide +kernel
theorem dX2_write_32 : decode cX2_write 32 = .ok (.iload_n 3, 1) := by decide +kernel
theorem dX2_write_33 : decode cX2_write 33 = .ok (.iastore, 1) := by decide +kernel
theorem dX2_write_34 : decode cX2_write 34 = .ok (.return_, 1) := by decide +kernel
theorem dX2_bringTogether_0 : decode cX2_bringTogether 0 = .ok (.aload_n 0, 1) := by decide +kernel
theorem dX2_bringTogether_1 : decode cX2_bringTogether 1 = .ok (.iload_n 1, 1) := by decide +kernel
theorem dX2_bringTogether_2 : decode cX2_bringTogether 2 = .ok (.iload_n 2, 1) := by decide +kernel
theorem dX2_bringTogether_3 : decode cX2_bringTogether 3 = .ok (.invokevirtual 128, 3) := by decide +kernel
theorem dX2_bringTogether_6 : decode cX2_bringTogether 6 = .ok (.ifCond .ne 6, 3) := by decide +kernel
theorem dX2_bringTogether_9 : decode cX2_bringTogether 9 = .ok (.ldc 73, 2) := by decide +kernel
theorem dX2_bringTogether_11 : decode cX2_bringTogether 11 = .ok (.ireturn, 1) := by decide +kernel
theorem dX2_bringTogether_12 : decode cX2_bringTogether 12 = .ok (.aload_n 0, 1) := by decide +kernel
theorem dX2_bringTogether_13 : decode cX2_bringTogether 13 = .ok (.iload_n 1, 1) := by decide +kernel
theorem dX2_bringTogether_14 : decode cX2_bringTogether 14 = .ok (.invokevirtual 74, 3) := by decide +kernel
theorem dX2_bringTogether_17 : decode cX2_bringTogether 17 = .ok (.ifCond .eq 11, 3) := by decide +kernel
theorem dX2_bringTogether_20 : decode cX2_bringTogether 20 = .ok (.aload_n 0, 1) := by decide +kernel
theorem dX2_bringTogether_21 : decode cX2_bringTogether 21 = .ok (.iload_n 2, 1) := by decide +kernel
theorem dX2_bringTogether_22 : decode cX2_bringTogether 22 = .ok (.invokevirtual 74, 3) := by decide +kernel
theorem dX2_bringTogether_25 : decode cX2_bringTogether 25 = .ok (.ifCond .ne 6, 3) := by decide +kernel
theorem dX2_bringTogether_28 : decode cX2_bringTogether 28 = .ok (.ldc 77, 2) := by decide +kernel
theorem dX2_bringTogether_30 : decode cX2_bringTogether 30 = .ok (.ireturn, 1) := by decide +kernel
theorem dX2_bringTogether_31 : decode cX2_bringTogether 31 = .ok (.aload_n 0, 1) := by decide +kernel
theorem dX2_bringTogether_32 : decode cX2_bringTogether 32 = .ok (.iload_n 1, 1) := by decide +kernel
theorem dX2_bringTogether_33 : decode cX2_bringTogether 33 = .ok (.iload_n 2, 1) := by decide +kernel
theorem dX2_bringTogether_34 : decode cX2_bringTogether 34 = .ok (.invokevirtual 131, 3) := by decide +kernel
theorem dX2_bringTogether_37 : decode cX2_bringTogether 37 = .ok (.ireturn, 1) := by decide +kernel
theorem dX2_talk_0 : decode cX2_talk 0 = .ok (.aload_n 0, 1) := by decide +kernel
theorem dX2_talk_1 : decode cX2_talk 1 = .ok (.getfield 28, 3) := by decide +kernel
theorem dX2_talk_4 : decode cX2_talk 4 = .ok (.iload_n 1, 1) := by decide +kernel
theorem dX2_talk_5 : decode cX2_talk 5 = .ok (.iaload, 1) := by decide +kernel
theorem dX2_talk_6 : decode cX2_talk 6 = .ok (.aload_n 0, 1) := by decide +kernel
theorem dX2_talk_7 : decode cX2_talk 7 = .ok (.getfield 28, 3) := by decide +kernel
theorem dX2_talk_10 : decode cX2_talk 10 = .ok (.iload_n 2, 1) := by decide +kernel
theorem dX2_talk_11 : decode cX2_talk 11 = .ok (.iaload, 1) := by decide +kernel
theorem dX2_talk_12 : decode cX2_talk 12 = .ok (.invokestatic 123, 3) := by decide +kernel
theorem dX2_talk_15 : decode cX2_talk 15 = .ok (.istore_n 3, 1) := by decide +kernel
theorem dX2_talk_16 : decode cX2_talk 16 = .ok (.aload_n 0, 1) := by decide +kernel
theorem dX2_talk_17 : decode cX2_talk 17 = .ok (.getfield 28, 3) := by decide +kernel
theorem dX2_talk_20 : decode cX2_talk 20 = .ok (.iload_n 1, 1) := by decide +kernel
theorem dX2_talk_21 : decode cX2_talk 21 = .ok (.iload_n 3, 1) := by decide +kernel
theorem dX2_talk_22 : decode cX2_talk 22 = .ok (.iastore, 1) := by decide +kernel
theorem dX2_talk_23 : decode cX2_talk 23 = .ok (.aload_n 0, 1) := by decide +kernel
theorem dX2_talk_24 : decode cX2_talk 24 = .ok (.getfield 28, 3) := by decide +kernel
theorem dX2_talk_27 : decode cX2_talk 27 = .ok (.iload_n 2, 1) := by decide +kernel
theorem dX2_talk_28 : decode cX2_talk 28 = .ok (.iload_n 3, 1) := by decide +kernel
theorem dX2_talk_29 : decode cX2_talk 29 = .ok (.iastore, 1) := by decide +kernel
theorem dX2_talk_30 : decode cX2_talk 30 = .ok (.iconst 0, 1) := by decide +kernel
theorem dX2_talk_31 : decode cX2_talk 31 = .ok (.istore 4, 2) := by decide +kernel
theorem dX2_talk_33 : decode cX2_talk 33 = .ok (.iconst 0, 1) := by decide +kernel
theorem dX2_talk_34 : decode cX2_talk 34 = .ok (.istore 5, 2) := by decide +kernel
theorem dX2_talk_36 : decode cX2_talk 36 = .ok (.iload 5, 2) := by decide +kernel
theorem dX2_talk_38 : decode cX2_talk 38 = .ok (.bipush 12, 2) := by decide +kernel
theorem dX2_talk_40 : decode cX2_talk 40 = .ok (.if_icmp .ge 55, 3) := by decide +kernel
theorem dX2_talk_43 : decode cX2_talk 43 = .ok (.aload_n 0, 1) := by decide +kernel
theorem dX2_talk_44 : decode cX2_talk 44 = .ok (.iload_n 1, 1) := by decide +kernel
theorem dX2_talk_45 : decode cX2_talk 45 = .ok (.iload_n 2, 1) := by decide +kernel
theorem dX2_talk_46 : decode cX2_talk 46 = .ok (.iload 5, 2) := by decide +kernel
theorem dX2_talk_48 : decode cX2_talk 48 = .ok (.invokevirtual 134, 3) := by decide +kernel
theorem dX2_talk_51 : decode cX2_talk 51 = .ok (.istore 6, 2) := by decide +kernel
theorem dX2_talk_53 : decode cX2_talk 53 = .ok (.iload 6, 2) := by decide +kernel
theorem dX2_talk_55 : decode cX2_talk 55 = .ok (.iconst (-1), 1) := by decide +kernel
theorem dX2_talk_56 : decode cX2_talk 56 = .ok (.if_icmp .eq 25, 3) := by decide +kernel
theorem dX2_talk_59 : decode cX2_talk 59 = .ok (.aload_n 0, 1) := by decide +kernel
theorem dX2_talk_60 : decode cX2_talk 60 = .ok (.iload 5, 2) := by decide +kernel
theorem dX2_talk_62 : decode cX2_talk 62 = .ok (.iload 6, 2) := by decide +kernel
theorem dX2_talk_64 : decode cX2_talk 64 = .ok (.iload 6, 2) := by decide +kernel
theorem dX2_talk_66 : decode cX2_talk 66 = .ok (.iload_n 1, 1) := by decide +kernel
theorem dX2_talk_67 : decode cX2_talk 67 = .ok (.if_icmp .ne 7, 3) := by decide +kernel
theorem dX2_talk_70 : decode cX2_talk 70 = .ok (.iload_n 2, 1) := by decide +kernel
theorem dX2_talk_71 : decode cX2_talk 71 = .ok (.goto 4, 3) := by decide +kernel
theorem dX2_talk_74 : decode cX2_talk 74 = .ok (.iload_n 1, 1) := by decide +kernel
theorem dX2_talk_75 : decode cX2_talk 75 = .ok (.invokevirtual 138, 3) := by decide +kernel
theorem dX2_talk_78 : decode cX2_talk 78 = .ok (.iinc 4 1, 3) := by decide +kernel
theorem dX2_talk_81 : decode cX2_talk 81 = .ok (.aload_n 0, 1) := by decide +kernel
theorem dX2_talk_82 : decode cX2_talk 82 = .ok (.iload_n 1, 1) := by decide +kernel
theorem dX2_talk_83 : decode cX2_talk 83 = .ok (.iload_n 2, 1) := by decide +kernel
theorem dX2_talk_84 : decode cX2_talk 84 = .ok (.iload 5, 2) := by decide +kernel
theorem dX2_talk_86 : decode cX2_talk 86 = .ok (.invokevirtual 141, 3) := by decide +kernel
theorem dX2_talk_89 : decode cX2_talk 89 = .ok (.iinc 5 1, 3) := by decide +kernel
theorem dX2_talk_92 : decode cX2_talk 92 = .ok (.goto (-56), 3) := by decide +kernel
theorem dX2_talk_95 : decode cX2_talk 95 = .ok (.iload 4, 2) := by decide +kernel
theorem dX2_talk_97 : decode cX2_talk 97 = .ok (.ireturn, 1) := by decide +kernel
theorem dX2_wouldPass_0 : decode cX2_wouldPass 0 = .ok (.iconst 0, 1) := by decide +kernel
theorem dX2_wouldPass_1 : decode cX2_wouldPass 1 = .ok (.istore_n 3, 1) := by decide +kernel
theorem dX2_wouldPass_2 : decode cX2_wouldPass 2 = .ok (.iconst 0, 1) := by decide +kernel
theorem dX2_wouldPass_3 : decode cX2_wouldPass 3 = .ok (.istore 4, 2) := by decide +kernel
theorem dX2_wouldPass_5 : decode cX2_wouldPass 5 = .ok (.iload 4, 2) := by decide +kernel
theorem dX2_wouldPass_7 : decode cX2_wouldPass 7 = .ok (.bipush 12, 2) := by decide +kernel
theorem dX2_wouldPass_9 : decode cX2_wouldPass 9 = .ok (.if_icmp .ge 24, 3) := by decide +kernel
theorem dX2_wouldPass_12 : decode cX2_wouldPass 12 = .ok (.aload_n 0, 1) := by decide +kernel
theorem dX2_wouldPass_13 : decode cX2_wouldPass 13 = .ok (.iload_n 1, 1) := by decide +kernel
theorem dX2_wouldPass_14 : decode cX2_wouldPass 14 = .ok (.iload_n 2, 1) := by decide +kernel
theorem dX2_wouldPass_15 : decode cX2_wouldPass 15 = .ok (.iload 4, 2) := by decide +kernel
theorem dX2_wouldPass_17 : decode cX2_wouldPass 17 = .ok (.invokevirtual 134, 3) := by decide +kernel
theorem dX2_wouldPass_20 : decode cX2_wouldPass 20 = .ok (.iconst (-1), 1) := by decide +kernel
theorem dX2_wouldPass_21 : decode cX2_wouldPass 21 = .ok (.if_icmp .eq 6, 3) := by decide +kernel
theorem dX2_wouldPass_24 : decode cX2_wouldPass 24 = .ok (.iinc 3 1, 3) := by decide +kernel
theorem dX2_wouldPass_27 : decode cX2_wouldPass 27 = .ok (.iinc 4 1, 3) := by decide +kernel
theorem dX2_wouldPass_30 : decode cX2_wouldPass 30 = .ok (.goto (-25), 3) := by decide +kernel
theorem dX2_wouldPass_33 : decode cX2_wouldPass 33 = .ok (.iload_n 3, 1) := by decide +kernel
theorem dX2_wouldPass_34 : decode cX2_wouldPass 34 = .ok (.ireturn, 1) := by decide +kernel
theorem dX2_giver_0 : decode cX2_giver 0 = .ok (.aload_n 0, 1) := by decide +kernel
theorem dX2_giver_1 : decode cX2_giver 1 = .ok (.getfield 37, 3) := by decide +kernel
theorem dX2_giver_4 : decode cX2_giver 4 = .ok (.iload_n 1, 1) := by decide +kernel
theorem dX2_giver_5 : decode cX2_giver 5 = .ok (.iload_n 3, 1) := by decide +kernel
theorem dX2_giver_6 : decode cX2_giver 6 = .ok (.invokestatic 88, 3) := by decide +kernel
theorem dX2_giver_9 : decode cX2_giver 9 = .ok (.iaload, 1) := by decide +kernel
theorem dX2_giver_10 : decode cX2_giver 10 = .ok (.istore 4, 2) := by decide +kernel
theorem dX2_giver_12 : decode cX2_giver 12 = .ok (.aload_n 0, 1) := by decide +kernel
theorem dX2_giver_13 : decode cX2_giver 13 = .ok (.getfield 37, 3) := by decide +kernel
theorem dX2_giver_16 : decode cX2_giver 16 = .ok (.iload_n 2, 1) := by decide +kernel
theorem dX2_giver_17 : decode cX2_giver 17 = .ok (.iload_n 3, 1) := by decide +kernel
theorem dX2_giver_18 : decode cX2_giver 18 = .ok (.invokestatic 88, 3) := by decide +kernel
theorem dX2_giver_21 : decode cX2_giver 21 = .ok (.iaload, 1) := by decide +kernel
theorem dX2_giver_22 : decode cX2_giver 22 = .ok (.istore 5, 2) := by decide +kernel
theorem dX2_giver_24 : decode cX2_giver 24 = .ok (.iload 4, 2) := by decide +kernel
theorem dX2_giver_26 : decode cX2_giver 26 = .ok (.iload 5, 2) := by decide +kernel
theorem dX2_giver_28 : decode cX2_giver 28 = .ok (.if_icmp .ne 5, 3) := by decide +kernel
theorem dX2_giver_31 : decode cX2_giver 31 = .ok (.iconst (-1), 1) := by decide +kernel
theorem dX2_giver_32 : decode cX2_giver 32 = .ok (.ireturn, 1) := by decide +kernel
theorem dX2_giver_33 : decode cX2_giver 33 = .ok (.iload 4, 2) := by decide +kernel
theorem dX2_giver_35 : decode cX2_giver 35 = .ok (.iload 5, 2) := by decide +kernel
theorem dX2_giver_37 : decode cX2_giver 37 = .ok (.if_icmp .le 7, 3) := by decide +kernel
theorem dX2_giver_40 : decode cX2_giver 40 = .ok (.iload_n 1, 1) := by decide +kernel
theorem dX2_giver_41 : decode cX2_giver 41 = .ok (.goto 4, 3) := by decide +kernel
theorem dX2_giver_44 : decode cX2_giver 44 = .ok (.iload_n 2, 1) := by decide +kernel
theorem dX2_giver_45 : decode cX2_giver 45 = .ok (.istore 6, 2) := by decide +kernel
theorem dX2_giver_47 : decode cX2_giver 47 = .ok (.iload 4, 2) := by decide +kernel
theorem dX2_giver_49 : decode cX2_giver 49 = .ok (.iload 5, 2) := by decide +kernel
theorem dX2_giver_51 : decode cX2_giver 51 = .ok (.if_icmp .le 7, 3) := by decide +kernel
theorem dX2_giver_54 : decode cX2_giver 54 = .ok (.iload_n 2, 1) := by decide +kernel
theorem dX2_giver_55 : decode cX2_giver 55 = .ok (.goto 4, 3) := by decide +kernel
theorem dX2_giver_58 : decode cX2_giver 58 = .ok (.iload_n 1, 1) := by decide +kernel
theorem dX2_giver_59 : decode cX2_giver 59 = .ok (.istore 7, 2) := by decide +kernel
theorem dX2_giver_61 : decode cX2_giver 61 = .ok (.aload_n 0, 1) := by decide +kernel
theorem dX2_giver_62 : decode cX2_giver 62 = .ok (.iload_n 3, 1) := by decide +kernel
theorem dX2_giver_63 : decode cX2_giver 63 = .ok (.iload 6, 2) := by decide +kernel
theorem dX2_giver_65 : decode cX2_giver 65 = .ok (.iload 7, 2) := by decide +kernel
theorem dX2_giver_67 : decode cX2_giver 67 = .ok (.invokevirtual 144, 3) := by decide +kernel
theorem dX2_giver_70 : decode cX2_giver 70 = .ok (.ifCond .eq 8, 3) := by decide +kernel
theorem dX2_giver_73 : decode cX2_giver 73 = .ok (.iload 6, 2) := by decide +kernel
theorem dX2_giver_75 : decode cX2_giver 75 = .ok (.goto 4, 3) := by decide +kernel
theorem dX2_giver_78 : decode cX2_giver 78 = .ok (.iconst (-1), 1) := by decide +kernel
theorem dX2_giver_79 : decode cX2_giver 79 = .ok (.ireturn, 1) := by decide +kernel
theorem dX2_mayHand_0 : decode cX2_mayHand 0 = .ok (.iload_n 2, 1) := by decide +kernel
theorem dX2_mayHand_1 : decode cX2_mayHand 1 = .ok (.iload_n 1, 1) := by decide +kernel
theorem dX2_mayHand_2 : decode cX2_mayHand 2 = .ok (.invokestatic 88, 3) := by decide +kernel
theorem dX2_mayHand_5 : decode cX2_mayHand 5 = .ok (.istore 4, 2) := by decide +kernel
theorem dX2_mayHand_7 : decode cX2_mayHand 7 = .ok (.aload_n 0, 1) := by decide +kernel
theorem dX2_mayHand_8 : decode cX2_mayHand 8 = .ok (.getfield 40, 3) := by decide +kernel
theorem dX2_mayHand_11 : decode cX2_mayHand 11 = .ok (.iload 4, 2) := by decide +kernel
theorem dX2_mayHand_13 : decode cX2_mayHand 13 = .ok (.iaload, 1) := by decide +kernel
theorem dX2_mayHand_14 : decode cX2_mayHand 14 = .ok (.lookupswitch 63 #[(1, 26), (2, 42)], 26) := by decide +kernel
theorem dX2_mayHand_40 : decode cX2_mayHand 40 = .ok (.aload_n 0, 1) := by decide +kernel
theorem dX2_mayHand_41 : decode cX2_mayHand 41 = .ok (.iload 4, 2) := by decide +kernel
theorem dX2_mayHand_43 : decode cX2_mayHand 43 = .ok (.invokevirtual 148, 3) := by decide +kernel
theorem dX2_mayHand_46 : decode cX2_mayHand 46 = .ok (.iload_n 2, 1) := by decide +kernel
theorem dX2_mayHand_47 : decode cX2_mayHand 47 = .ok (.if_icmp .ne 7, 3) := by decide +kernel
theorem dX2_mayHand_50 : decode cX2_mayHand 50 = .ok (.iconst 1, 1) := by decide +kernel
theorem dX2_mayHand_51 : decode cX2_mayHand 51 = .ok (.goto 4, 3) := by decide +kernel
theorem dX2_mayHand_54 : decode cX2_mayHand 54 = .ok (.iconst 0, 1) := by decide +kernel
theorem dX2_mayHand_55 : decode cX2_mayHand 55 = .ok (.ireturn, 1) := by decide +kernel
theorem dX2_mayHand_56 : decode cX2_mayHand 56 = .ok (.aload_n 0, 1) := by decide +kernel
theorem dX2_mayHand_57 : decode cX2_mayHand 57 = .ok (.iload 4, 2) := by decide +kernel
theorem dX2_mayHand_59 : decode cX2_mayHand 59 = .ok (.invokevirtual 148, 3) := by decide +kernel
theorem dX2_mayHand_62 : decode cX2_mayHand 62 = .ok (.iload_n 2, 1) := by decide +kernel
theorem dX2_mayHand_63 : decode cX2_mayHand 63 = .ok (.if_icmp .ne 12, 3) := by decide +kernel
theorem dX2_mayHand_66 : decode cX2_mayHand 66 = .ok (.iload_n 3, 1) := by decide +kernel
theorem dX2_mayHand_67 : decode cX2_mayHand 67 = .ok (.iload_n 2, 1) := by decide +kernel
theorem dX2_mayHand_68 : decode cX2_mayHand 68 = .ok (.if_icmp .le 7, 3) := by decide +kernel
theorem dX2_mayHand_71 : decode cX2_mayHand 71 = .ok (.iconst 1, 1) := by decide +kernel
theorem dX2_mayHand_72 : decode cX2_mayHand 72 = .ok (.goto 4, 3) := by decide +kernel
theorem dX2_mayHand_75 : decode cX2_mayHand 75 = .ok (.iconst 0, 1) := by decide +kernel
theorem dX2_mayHand_76 : decode cX2_mayHand 76 = .ok (.ireturn, 1) := by decide +kernel
theorem dX2_mayHand_77 : decode cX2_mayHand 77 = .ok (.iconst 1, 1) := by decide +kernel
theorem dX2_mayHand_78 : decode cX2_mayHand 78 = .ok (.ireturn, 1) := by decide +kernel
theorem dX2_hand_0 : decode cX2_hand 0 = .ok (.iload_n 2, 1) := by decide +kernel
theorem dX2_hand_1 : decode cX2_hand 1 = .ok (.iload_n 1, 1) := by decide +kernel
theorem dX2_hand_2 : decode cX2_hand 2 = .ok (.invokestatic 88, 3) := by decide +kernel
theorem dX2_hand_5 : decode cX2_hand 5 = .ok (.istore 4, 2) := by decide +kernel
theorem dX2_hand_7 : decode cX2_hand 7 = .ok (.iload_n 3, 1) := by decide +kernel
theorem dX2_hand_8 : decode cX2_hand 8 = .ok (.iload_n 1, 1) := by decide +kernel
theorem dX2_hand_9 : decode cX2_hand 9 = .ok (.invokestatic 88, 3) := by decide +kernel
theorem dX2_hand_12 : decode cX2_hand 12 = .ok (.istore 5, 2) := by decide +kernel
theorem dX2_hand_14 : decode cX2_hand 14 = .ok (.aload_n 0, 1) := by decide +kernel
theorem dX2_hand_15 : decode cX2_hand 15 = .ok (.iload 4, 2) := by decide +kernel
theorem dX2_hand_17 : decode cX2_hand 17 = .ok (.invokevirtual 92, 3) := by decide +kernel
theorem dX2_hand_20 : decode cX2_hand 20 = .ok (.ifCond .eq 30, 3) := by decide +kernel
theorem dX2_hand_23 : decode cX2_hand 23 = .ok (.aload_n 0, 1) := by decide +kernel
theorem dX2_hand_24 : decode cX2_hand 24 = .ok (.getfield 37, 3) := by decide +kernel
theorem dX2_hand_27 : decode cX2_hand 27 = .ok (.iload 4, 2) := by decide +kernel
theorem dX2_hand_29 : decode cX2_hand 29 = .ok (.iaload, 1) := by decide +kernel
theorem dX2_hand_30 : decode cX2_hand 30 = .ok (.aload_n 0, 1) := by decide +kernel
theorem dX2_hand_31 : decode cX2_hand 31 = .ok (.getfield 52, 3) := by decide +kernel
theorem dX2_hand_34 : decode cX2_hand 34 = .ok (.iload 5, 2) := by decide +kernel
theorem dX2_hand_36 : decode cX2_hand 36 = .ok (.iaload, 1) := by decide +kernel
theorem dX2_hand_37 : decode cX2_hand 37 = .ok (.if_icmp .ge 13, 3) := by decide +kernel
theorem dX2_hand_40 : decode cX2_hand 40 = .ok (.aload_n 0, 1) := by decide +kernel
theorem dX2_hand_41 : decode cX2_hand 41 = .ok (.getfield 34, 3) := by decide +kernel
theorem dX2_hand_44 : decode cX2_hand 44 = .ok (.iload_n 3, 1) := by decide +kernel
theorem dX2_hand_45 : decode cX2_hand 45 = .ok (.dup2, 1) := by decide +kernel
theorem dX2_hand_46 : decode cX2_hand 46 = .ok (.iaload, 1) := by decide +kernel
theorem dX2_hand_47 : decode cX2_hand 47 = .ok (.iconst 1, 1) := by decide +kernel
theorem dX2_hand_48 : decode cX2_hand 48 = .ok (.iadd, 1) := by decide +kernel
theorem dX2_hand_49 : decode cX2_hand 49 = .ok (.iastore, 1) := by decide +kernel
theorem dX2_hand_50 : decode cX2_hand 50 = .ok (.aload_n 0, 1) := by decide +kernel
theorem dX2_hand_51 : decode cX2_hand 51 = .ok (.getfield 37, 3) := by decide +kernel
theorem dX2_hand_54 : decode cX2_hand 54 = .ok (.iload 5, 2) := by decide +kernel
theorem dX2_hand_56 : decode cX2_hand 56 = .ok (.aload_n 0, 1) := by decide +kernel
theorem dX2_hand_57 : decode cX2_hand 57 = .ok (.getfield 37, 3) := by decide +kernel
theorem dX2_hand_60 : decode cX2_hand 60 = .ok (.iload 4, 2) := by decide +kernel
theorem dX2_hand_62 : decode cX2_hand 62 = .ok (.iaload, 1) := by decide +kernel
theorem dX2_hand_63 : decode cX2_hand 63 = .ok (.iastore, 1) := by decide +kernel
theorem dX2_hand_64 : decode cX2_hand 64 = .ok (.aload_n 0, 1) := by decide +kernel
theorem dX2_hand_65 : decode cX2_hand 65 = .ok (.getfield 40, 3) := by decide +kernel
theorem dX2_hand_68 : decode cX2_hand 68 = .ok (.iload 5, 2) := by decide +kernel
theorem dX2_hand_70 : decode cX2_hand 70 = .ok (.aload_n 0, 1) := by decide +kernel
theorem dX2_hand_71 : decode cX2_hand 71 = .ok (.getfield 40, 3) := by decide +kernel
theorem dX2_hand_74 : decode cX2_hand 74 = .ok (.iload 4, 2) := by decide +kernel
theorem dX2_hand_76 : decode cX2_hand 76 = .ok (.iaload, 1) := by decide +kernel
theorem dX2_hand_77 : decode cX2_hand 77 = .ok (.iastore, 1) := by decide +kernel
theorem dX2_hand_78 : decode cX2_hand 78 = .ok (.aload_n 0, 1) := by decide +kernel
theorem dX2_hand_79 : decode cX2_hand 79 = .ok (.getfield 43, 3) := by decide +kernel
theorem dX2_hand_82 : decode cX2_hand 82 = .ok (.iload 5, 2) := by decide +kernel
theorem dX2_hand_84 : decode cX2_hand 84 = .ok (.aload_n 0, 1) := by decide +kernel
theorem dX2_hand_85 : decode cX2_hand 85 = .ok (.getfield 43, 3) := by decide +kernel
theorem dX2_hand_88 : decode cX2_hand 88 = .ok (.iload 4, 2) := by decide +kernel
theorem dX2_hand_90 : decode cX2_hand 90 = .ok (.iaload, 1) := by decide +kernel
theorem dX2_hand_91 : decode cX2_hand 91 = .ok (.iastore, 1) := by decide +kernel
theorem dX2_hand_92 : decode cX2_hand 92 = .ok (.aload_n 0, 1) := by decide +kernel
theorem dX2_hand_93 : decode cX2_hand 93 = .ok (.getfield 46, 3) := by decide +kernel
theorem dX2_hand_96 : decode cX2_hand 96 = .ok (.iload 5, 2) := by decide +kernel
theorem dX2_hand_98 : decode cX2_hand 98 = .ok (.aload_n 0, 1) := by decide +kernel
theorem dX2_hand_99 : decode cX2_hand 99 = .ok (.getfield 46, 3) := by decide +kernel
theorem dX2_hand_102 : decode cX2_hand 102 = .ok (.iload 4, 2) := by decide +kernel
theorem dX2_hand_104 : decode cX2_hand 104 = .ok (.iaload, 1) := by decide +kernel
theorem dX2_hand_105 : decode cX2_hand 105 = .ok (.iastore, 1) := by decide +kernel
theorem dX2_hand_106 : decode cX2_hand 106 = .ok (.aload_n 0, 1) := by decide +kernel
theorem dX2_hand_107 : decode cX2_hand 107 = .ok (.getfield 49, 3) := by decide +kernel
theorem dX2_hand_110 : decode cX2_hand 110 = .ok (.iload 5, 2) := by decide +kernel
theorem dX2_hand_112 : decode cX2_hand 112 = .ok (.aload_n 0, 1) := by decide +kernel
theorem dX2_hand_113 : decode cX2_hand 113 = .ok (.getfield 49, 3) := by decide +kernel
theorem dX2_hand_116 : decode cX2_hand 116 = .ok (.iload 4, 2) := by decide +kernel
theorem dX2_hand_118 : decode cX2_hand 118 = .ok (.iaload, 1) := by decide +kernel
theorem dX2_hand_119 : decode cX2_hand 119 = .ok (.iastore, 1) := by decide +kernel
theorem dX2_hand_120 : decode cX2_hand 120 = .ok (.return_, 1) := by decide +kernel
theorem dX2_shareSight_0 : decode cX2_shareSight 0 = .ok (.iload_n 1, 1) := by decide +kernel
theorem dX2_shareSight_1 : decode cX2_shareSight 1 = .ok (.iload_n 3, 1) := by decide +kernel
theorem dX2_shareSight_2 : decode cX2_shareSight 2 = .ok (.invokestatic 88, 3) := by decide +kernel
theorem dX2_shareSight_5 : decode cX2_shareSight 5 = .ok (.istore 4, 2) := by decide +kernel
theorem dX2_shareSight_7 : decode cX2_shareSight 7 = .ok (.iload_n 2, 1) := by decide +kernel
theorem dX2_shareSight_8 : decode cX2_shareSight 8 = .ok (.iload_n 3, 1) := by decide +kernel
theorem dX2_shareSight_9 : decode cX2_shareSight 9 = .ok (.invokestatic 88, 3) := by decide +kernel
theorem dX2_shareSight_12 : decode cX2_shareSight 12 = .ok (.istore 5, 2) := by decide +kernel
theorem dX2_shareSight_14 : decode cX2_shareSight 14 = .ok (.aload_n 0, 1) := by decide +kernel
theorem dX2_shareSight_15 : decode cX2_shareSight 15 = .ok (.iload 4, 2) := by decide +kernel
theorem dX2_shareSight_17 : decode cX2_shareSight 17 = .ok (.invokevirtual 95, 3) := by decide +kernel
theorem dX2_shareSight_20 : decode cX2_shareSight 20 = .ok (.ifCond .eq 63, 3) := by decide +kernel
theorem dX2_shareSight_23 : decode cX2_shareSight 23 = .ok (.aload_n 0, 1) := by decide +kernel
theorem dX2_shareSight_24 : decode cX2_shareSight 24 = .ok (.getfield 37, 3) := by decide +kernel
theorem dX2_shareSight_27 : decode cX2_shareSight 27 = .ok (.iload 4, 2) := by decide +kernel
theorem dX2_shareSight_29 : decode cX2_shareSight 29 = .ok (.iaload, 1) := by decide +kernel
theorem dX2_shareSight_30 : decode cX2_shareSight 30 = .ok (.aload_n 0, 1) := by decide +kernel
theorem dX2_shareSight_31 : decode cX2_shareSight 31 = .ok (.getfield 37, 3) := by decide +kernel
theorem dX2_shareSight_34 : decode cX2_shareSight 34 = .ok (.iload 5, 2) := by decide +kernel
theorem dX2_shareSight_36 : decode cX2_shareSight 36 = .ok (.iaload, 1) := by decide +kernel
theorem dX2_shareSight_37 : decode cX2_shareSight 37 = .ok (.if_icmp .ne 46, 3) := by decide +kernel
theorem dX2_shareSight_40 : decode cX2_shareSight 40 = .ok (.aload_n 0, 1) := by decide +kernel
theorem dX2_shareSight_41 : decode cX2_shareSight 41 = .ok (.getfield 49, 3) := by decide +kernel
theorem dX2_shareSight_44 : decode cX2_shareSight 44 = .ok (.iload 4, 2) := by decide +kernel
theorem dX2_shareSight_46 : decode cX2_shareSight 46 = .ok (.iaload, 1) := by decide +kernel
theorem dX2_shareSight_47 : decode cX2_shareSight 47 = .ok (.aload_n 0, 1) := by decide +kernel
theorem dX2_shareSight_48 : decode cX2_shareSight 48 = .ok (.getfield 49, 3) := by decide +kernel
theorem dX2_shareSight_51 : decode cX2_shareSight 51 = .ok (.iload 5, 2) := by decide +kernel
theorem dX2_shareSight_53 : decode cX2_shareSight 53 = .ok (.iaload, 1) := by decide +kernel
theorem dX2_shareSight_54 : decode cX2_shareSight 54 = .ok (.ior, 1) := by decide +kernel
theorem dX2_shareSight_55 : decode cX2_shareSight 55 = .ok (.iconst 1, 1) := by decide +kernel
theorem dX2_shareSight_56 : decode cX2_shareSight 56 = .ok (.iload_n 1, 1) := by decide +kernel
theorem dX2_shareSight_57 : decode cX2_shareSight 57 = .ok (.ishl, 1) := by decide +kernel
theorem dX2_shareSight_58 : decode cX2_shareSight 58 = .ok (.ior, 1) := by decide +kernel
theorem dX2_shareSight_59 : decode cX2_shareSight 59 = .ok (.iconst 1, 1) := by decide +kernel
theorem dX2_shareSight_60 : decode cX2_shareSight 60 = .ok (.iload_n 2, 1) := by decide +kernel
theorem dX2_shareSight_61 : decode cX2_shareSight 61 = .ok (.ishl, 1) := by decide +kernel
theorem dX2_shareSight_62 : decode cX2_shareSight 62 = .ok (.ior, 1) := by decide +kernel
theorem dX2_shareSight_63 : decode cX2_shareSight 63 = .ok (.istore 6, 2) := by decide +kernel
theorem dX2_shareSight_65 : decode cX2_shareSight 65 = .ok (.aload_n 0, 1) := by decide +kernel
theorem dX2_shareSight_66 : decode cX2_shareSight 66 = .ok (.getfield 49, 3) := by decide +kernel
theorem dX2_shareSight_69 : decode cX2_shareSight 69 = .ok (.iload 4, 2) := by decide +kernel
theorem dX2_shareSight_71 : decode cX2_shareSight 71 = .ok (.iload 6, 2) := by decide +kernel
theorem dX2_shareSight_73 : decode cX2_shareSight 73 = .ok (.iastore, 1) := by decide +kernel
theorem dX2_shareSight_74 : decode cX2_shareSight 74 = .ok (.aload_n 0, 1) := by decide +kernel
theorem dX2_shareSight_75 : decode cX2_shareSight 75 = .ok (.getfield 49, 3) := by decide +kernel
theorem dX2_shareSight_78 : decode cX2_shareSight 78 = .ok (.iload 5, 2) := by decide +kernel
theorem dX2_shareSight_80 : decode cX2_shareSight 80 = .ok (.iload 6, 2) := by decide +kernel
theorem dX2_shareSight_82 : decode cX2_shareSight 82 = .ok (.iastore, 1) := by decide +kernel
theorem dX2_shareSight_83 : decode cX2_shareSight 83 = .ok (.return_, 1) := by decide +kernel
theorem dX2_awakeAreAlike_0 : decode cX2_awakeAreAlike 0 = .ok (.iconst (-1), 1) := by decide +kernel
theorem dX2_awakeAreAlike_1 : decode cX2_awakeAreAlike 1 = .ok (.istore_n 1, 1) := by decide +kernel
theorem dX2_awakeAreAlike_2 : decode cX2_awakeAreAlike 2 = .ok (.iconst 0, 1) := by decide +kernel
theorem dX2_awakeAreAlike_3 : decode cX2_awakeAreAlike 3 = .ok (.istore_n 2, 1) := by decide +kernel
theorem dX2_awakeAreAlike_4 : decode cX2_awakeAreAlike 4 = .ok (.iload_n 2, 1) := by decide +kernel
theorem dX2_awakeAreAlike_5 : decode cX2_awakeAreAlike 5 = .ok (.aload_n 0, 1) := by decide +kernel
theorem dX2_awakeAreAlike_6 : decode cX2_awakeAreAlike 6 = .ok (.getfield 9, 3) := by decide +kernel
theorem dX2_awakeAreAlike_9 : decode cX2_awakeAreAlike 9 = .ok (.if_icmp .ge 35, 3) := by decide +kernel
theorem dX2_awakeAreAlike_12 : decode cX2_awakeAreAlike 12 = .ok (.aload_n 0, 1) := by decide +kernel
theorem dX2_awakeAreAlike_13 : decode cX2_awakeAreAlike 13 = .ok (.iload_n 2, 1) := by decide +kernel
theorem dX2_awakeAreAlike_14 : decode cX2_awakeAreAlike 14 = .ok (.invokevirtual 74, 3) := by decide +kernel
theorem dX2_awakeAreAlike_17 : decode cX2_awakeAreAlike 17 = .ok (.ifCond .eq 21, 3) := by decide +kernel
theorem dX2_awakeAreAlike_20 : decode cX2_awakeAreAlike 20 = .ok (.iload_n 1, 1) := by decide +kernel
theorem dX2_awakeAreAlike_21 : decode cX2_awakeAreAlike 21 = .ok (.iconst (-1), 1) := by decide +kernel
theorem dX2_awakeAreAlike_22 : decode cX2_awakeAreAlike 22 = .ok (.if_icmp .eq 14, 3) := by decide +kernel
theorem dX2_awakeAreAlike_25 : decode cX2_awakeAreAlike 25 = .ok (.aload_n 0, 1) := by decide +kernel
theorem dX2_awakeAreAlike_26 : decode cX2_awakeAreAlike 26 = .ok (.iload_n 1, 1) := by decide +kernel
theorem dX2_awakeAreAlike_27 : decode cX2_awakeAreAlike 27 = .ok (.iload_n 2, 1) := by decide +kernel
theorem dX2_awakeAreAlike_28 : decode cX2_awakeAreAlike 28 = .ok (.invokevirtual 151, 3) := by decide +kernel
theorem dX2_awakeAreAlike_31 : decode cX2_awakeAreAlike 31 = .ok (.ifCond .eq 5, 3) := by decide +kernel
theorem dX2_awakeAreAlike_34 : decode cX2_awakeAreAlike 34 = .ok (.iconst 0, 1) := by decide +kernel
theorem dX2_awakeAreAlike_35 : decode cX2_awakeAreAlike 35 = .ok (.ireturn, 1) := by decide +kernel
theorem dX2_awakeAreAlike_36 : decode cX2_awakeAreAlike 36 = .ok (.iload_n 2, 1) := by decide +kernel
theorem dX2_awakeAreAlike_37 : decode cX2_awakeAreAlike 37 = .ok (.istore_n 1, 1) := by decide +kernel
theorem dX2_awakeAreAlike_38 : decode cX2_awakeAreAlike 38 = .ok (.iinc 2 1, 3) := by decide +kernel
theorem dX2_awakeAreAlike_41 : decode cX2_awakeAreAlike 41 = .ok (.goto (-37), 3) := by decide +kernel
theorem dX2_awakeAreAlike_44 : decode cX2_awakeAreAlike 44 = .ok (.iconst 1, 1) := by decide +kernel
theorem dX2_awakeAreAlike_45 : decode cX2_awakeAreAlike 45 = .ok (.ireturn, 1) := by decide +kernel
theorem dX2_meetInTurn_0 : decode cX2_meetInTurn 0 = .ok (.iconst (-1), 1) := by decide +kernel
theorem dX2_meetInTurn_1 : decode cX2_meetInTurn 1 = .ok (.istore_n 1, 1) := by decide +kernel
theorem dX2_meetInTurn_2 : decode cX2_meetInTurn 2 = .ok (.iconst (-1), 1) := by decide +kernel
theorem dX2_meetInTurn_3 : decode cX2_meetInTurn 3 = .ok (.istore_n 2, 1) := by decide +kernel
theorem dX2_meetInTurn_4 : decode cX2_meetInTurn 4 = .ok (.iconst 0, 1) := by decide +kernel
theorem dX2_meetInTurn_5 : decode cX2_meetInTurn 5 = .ok (.istore_n 3, 1) := by decide +kernel
theorem dX2_meetInTurn_6 : decode cX2_meetInTurn 6 = .ok (.iload_n 3, 1) := by decide +kernel
theorem dX2_meetInTurn_7 : decode cX2_meetInTurn 7 = .ok (.aload_n 0, 1) := by decide +kernel
theorem dX2_meetInTurn_8 : decode cX2_meetInTurn 8 = .ok (.getfield 9, 3) := by decide +kernel
theorem dX2_meetInTurn_11 : decode cX2_meetInTurn 11 = .ok (.if_icmp .ge 36, 3) := by decide +kernel
theorem dX2_meetInTurn_14 : decode cX2_meetInTurn 14 = .ok (.aload_n 0, 1) := by decide +kernel
theorem dX2_meetInTurn_15 : decode cX2_meetInTurn 15 = .ok (.iload_n 3, 1) := by decide +kernel
theorem dX2_meetInTurn_16 : decode cX2_meetInTurn 16 = .ok (.invokevirtual 74, 3) := by decide +kernel
theorem dX2_meetInTurn_19 : decode cX2_meetInTurn 19 = .ok (.ifCond .eq 22, 3) := by decide +kernel
theorem dX2_meetInTurn_22 : decode cX2_meetInTurn 22 = .ok (.iload_n 2, 1) := by decide +kernel
theorem dX2_meetInTurn_23 : decode cX2_meetInTurn 23 = .ok (.iconst (-1), 1) := by decide +kernel
theorem dX2_meetInTurn_24 : decode cX2_meetInTurn 24 = .ok (.if_icmp .ne 8, 3) := by decide +kernel
theorem dX2_meetInTurn_27 : decode cX2_meetInTurn 27 = .ok (.iload_n 3, 1) := by decide +kernel
theorem dX2_meetInTurn_28 : decode cX2_meetInTurn 28 = .ok (.istore_n 1, 1) := by decide +kernel
theorem dX2_meetInTurn_29 : decode cX2_meetInTurn 29 = .ok (.goto 10, 3) := by decide +kernel
theorem dX2_meetInTurn_32 : decode cX2_meetInTurn 32 = .ok (.aload_n 0, 1) := by decide +kernel
theorem dX2_meetInTurn_33 : decode cX2_meetInTurn 33 = .ok (.iload_n 2, 1) := by decide +kernel
theorem dX2_meetInTurn_34 : decode cX2_meetInTurn 34 = .ok (.iload_n 3, 1) := by decide +kernel
theorem dX2_meetInTurn_35 : decode cX2_meetInTurn 35 = .ok (.invokevirtual 131, 3) := by decide +kernel
theorem dX2_meetInTurn_38 : decode cX2_meetInTurn 38 = .ok (.pop, 1) := by decide +kernel
theorem dX2_meetInTurn_39 : decode cX2_meetInTurn 39 = .ok (.iload_n 3, 1) := by decide +kernel
theorem dX2_meetInTurn_40 : decode cX2_meetInTurn 40 = .ok (.istore_n 2, 1) := by decide +kernel
theorem dX2_meetInTurn_41 : decode cX2_meetInTurn 41 = .ok (.iinc 3 1, 3) := by decide +kernel
theorem dX2_meetInTurn_44 : decode cX2_meetInTurn 44 = .ok (.goto (-38), 3) := by decide +kernel
theorem dX2_meetInTurn_47 : decode cX2_meetInTurn 47 = .ok (.aload_n 0, 1) := by decide +kernel
theorem dX2_meetInTurn_48 : decode cX2_meetInTurn 48 = .ok (.iconst 0, 1) := by decide +kernel
theorem dX2_meetInTurn_49 : decode cX2_meetInTurn 49 = .ok (.invokevirtual 78, 3) := by decide +kernel
theorem dX2_meetInTurn_52 : decode cX2_meetInTurn 52 = .ok (.iconst 2, 1) := by decide +kernel
theorem dX2_meetInTurn_53 : decode cX2_meetInTurn 53 = .ok (.if_icmp .le 10, 3) := by decide +kernel
theorem dX2_meetInTurn_56 : decode cX2_meetInTurn 56 = .ok (.aload_n 0, 1) := by decide +kernel
theorem dX2_meetInTurn_57 : decode cX2_meetInTurn 57 = .ok (.iload_n 2, 1) := by decide +kernel
theorem dX2_meetInTurn_58 : decode cX2_meetInTurn 58 = .ok (.iload_n 1, 1) := by decide +kernel
theorem dX2_meetInTurn_59 : decode cX2_meetInTurn 59 = .ok (.invokevirtual 131, 3) := by decide +kernel
theorem dX2_meetInTurn_62 : decode cX2_meetInTurn 62 = .ok (.pop, 1) := by decide +kernel
theorem dX2_meetInTurn_63 : decode cX2_meetInTurn 63 = .ok (.return_, 1) := by decide +kernel
theorem dX2_letGoBy_0 : decode cX2_letGoBy 0 = .ok (.iload_n 1, 1) := by decide +kernel
theorem dX2_letGoBy_1 : decode cX2_letGoBy 1 = .ok (.iconst 1, 1) := by decide +kernel
theorem dX2_letGoBy_2 : decode cX2_letGoBy 2 = .ok (.if_icmp .lt 9, 3) := by decide +kernel
theorem dX2_letGoBy_5 : decode cX2_letGoBy 5 = .ok (.iload_n 1, 1) := by decide +kernel
theorem dX2_letGoBy_6 : decode cX2_letGoBy 6 = .ok (.bipush 60, 2) := by decide +kernel
theorem dX2_letGoBy_8 : decode cX2_letGoBy 8 = .ok (.if_icmp .le 6, 3) := by decide +kernel
theorem dX2_letGoBy_11 : decode cX2_letGoBy 11 = .ok (.ldc 73, 2) := by decide +kernel
theorem dX2_letGoBy_13 : decode cX2_letGoBy 13 = .ok (.ireturn, 1) := by decide +kernel
theorem dX2_letGoBy_14 : decode cX2_letGoBy 14 = .ok (.aload_n 0, 1) := by decide +kernel
theorem dX2_letGoBy_15 : decode cX2_letGoBy 15 = .ok (.getfield 15, 3) := by decide +kernel
theorem dX2_letGoBy_18 : decode cX2_letGoBy 18 = .ok (.iload_n 1, 1) := by decide +kernel
theorem dX2_letGoBy_19 : decode cX2_letGoBy 19 = .ok (.iadd, 1) := by decide +kernel
theorem dX2_letGoBy_20 : decode cX2_letGoBy 20 = .ok (.ldc 154, 2) := by decide +kernel
theorem dX2_letGoBy_22 : decode cX2_letGoBy 22 = .ok (.if_icmp .le 6, 3) := by decide +kernel
theorem dX2_letGoBy_25 : decode cX2_letGoBy 25 = .ok (.ldc 72, 2) := by decide +kernel
theorem dX2_letGoBy_27 : decode cX2_letGoBy 27 = .ok (.ireturn, 1) := by decide +kernel
theorem dX2_letGoBy_28 : decode cX2_letGoBy 28 = .ok (.aload_n 0, 1) := by decide +kernel
theorem dX2_letGoBy_29 : decode cX2_letGoBy 29 = .ok (.iload_n 1, 1) := by decide +kernel
theorem dX2_letGoBy_30 : decode cX2_letGoBy 30 = .ok (.invokevirtual 155, 3) := by decide +kernel
theorem dX2_letGoBy_33 : decode cX2_letGoBy 33 = .ok (.ireturn, 1) := by decide +kernel
theorem dX2_pass_0 : decode cX2_pass 0 = .ok (.aload_n 0, 1) := by decide +kernel
theorem dX2_pass_1 : decode cX2_pass 1 = .ok (.dup, 1) := by decide +kernel
theorem dX2_pass_2 : decode cX2_pass 2 = .ok (.getfield 15, 3) := by decide +kernel
theorem dX2_pass_5 : decode cX2_pass 5 = .ok (.iload_n 1, 1) := by decide +kernel
theorem dX2_pass_6 : decode cX2_pass 6 = .ok (.iadd, 1) := by decide +kernel
theorem dX2_pass_7 : decode cX2_pass 7 = .ok (.putfield 15, 3) := by decide +kernel
theorem dX2_pass_10 : decode cX2_pass 10 = .ok (.iconst 0, 1) := by decide +kernel
theorem dX2_pass_11 : decode cX2_pass 11 = .ok (.istore_n 2, 1) := by decide +kernel
theorem dX2_pass_12 : decode cX2_pass 12 = .ok (.aload_n 0, 1) := by decide +kernel
theorem dX2_pass_13 : decode cX2_pass 13 = .ok (.invokevirtual 158, 3) := by decide +kernel
theorem dX2_pass_16 : decode cX2_pass 16 = .ok (.istore_n 3, 1) := by decide +kernel
theorem dX2_pass_17 : decode cX2_pass 17 = .ok (.iconst 0, 1) := by decide +kernel
theorem dX2_pass_18 : decode cX2_pass 18 = .ok (.istore 4, 2) := by decide +kernel
theorem dX2_pass_20 : decode cX2_pass 20 = .ok (.iload 4, 2) := by decide +kernel
theorem dX2_pass_22 : decode cX2_pass 22 = .ok (.aload_n 0, 1) := by decide +kernel
theorem dX2_pass_23 : decode cX2_pass 23 = .ok (.getfield 9, 3) := by decide +kernel
theorem dX2_pass_26 : decode cX2_pass 26 = .ok (.if_icmp .ge 88, 3) := by decide +kernel
theorem dX2_pass_29 : decode cX2_pass 29 = .ok (.iconst 0, 1) := by decide +kernel
theorem dX2_pass_30 : decode cX2_pass 30 = .ok (.istore 5, 2) := by decide +kernel
theorem dX2_pass_32 : decode cX2_pass 32 = .ok (.iload 5, 2) := by decide +kernel
theorem dX2_pass_34 : decode cX2_pass 34 = .ok (.bipush 12, 2) := by decide +kernel
theorem dX2_pass_36 : decode cX2_pass 36 = .ok (.if_icmp .ge 72, 3) := by decide +kernel
theorem dX2_pass_39 : decode cX2_pass 39 = .ok (.iload 4, 2) := by decide +kernel
theorem dX2_pass_41 : decode cX2_pass 41 = .ok (.iload 5, 2) := by decide +kernel
theorem dX2_pass_43 : decode cX2_pass 43 = .ok (.invokestatic 88, 3) := by decide +kernel
theorem dX2_pass_46 : decode cX2_pass 46 = .ok (.istore 6, 2) := by decide +kernel
theorem dX2_pass_48 : decode cX2_pass 48 = .ok (.aload_n 0, 1) := by decide +kernel
theorem dX2_pass_49 : decode cX2_pass 49 = .ok (.iload 6, 2) := by decide +kernel
theorem dX2_pass_51 : decode cX2_pass 51 = .ok (.invokevirtual 95, 3) := by decide +kernel
theorem dX2_pass_54 : decode cX2_pass 54 = .ok (.ifCond .eq 48, 3) := by decide +kernel
theorem dX2_pass_57 : decode cX2_pass 57 = .ok (.aload_n 0, 1) := by decide +kernel
theorem dX2_pass_58 : decode cX2_pass 58 = .ok (.iload 6, 2) := by decide +kernel
theorem dX2_pass_60 : decode cX2_pass 60 = .ok (.iload_n 3, 1) := by decide +kernel
theorem dX2_pass_61 : decode cX2_pass 61 = .ok (.invokevirtual 162, 3) := by decide +kernel
theorem dX2_pass_64 : decode cX2_pass 64 = .ok (.ifCond .eq 38, 3) := by decide +kernel
theorem dX2_pass_67 : decode cX2_pass 67 = .ok (.aload_n 0, 1) := by decide +kernel
theorem dX2_pass_68 : decode cX2_pass 68 = .ok (.getfield 52, 3) := by decide +kernel
theorem dX2_pass_71 : decode cX2_pass 71 = .ok (.iload 6, 2) := by decide +kernel
theorem dX2_pass_73 : decode cX2_pass 73 = .ok (.aload_n 0, 1) := by decide +kernel
theorem dX2_pass_74 : decode cX2_pass 74 = .ok (.getfield 52, 3) := by decide +kernel
theorem dX2_pass_77 : decode cX2_pass 77 = .ok (.iload 6, 2) := by decide +kernel
theorem dX2_pass_79 : decode cX2_pass 79 = .ok (.iaload, 1) := by decide +kernel
theorem dX2_pass_80 : decode cX2_pass 80 = .ok (.aload_n 0, 1) := by decide +kernel
theorem dX2_pass_81 : decode cX2_pass 81 = .ok (.getfield 37, 3) := by decide +kernel
theorem dX2_pass_84 : decode cX2_pass 84 = .ok (.iload 6, 2) := by decide +kernel
theorem dX2_pass_86 : decode cX2_pass 86 = .ok (.iaload, 1) := by decide +kernel
theorem dX2_pass_87 : decode cX2_pass 87 = .ok (.invokestatic 123, 3) := by decide +kernel
theorem dX2_pass_90 : decode cX2_pass 90 = .ok (.iastore, 1) := by decide +kernel
theorem dX2_pass_91 : decode cX2_pass 91 = .ok (.aload_n 0, 1) := by decide +kernel
theorem dX2_pass_92 : decode cX2_pass 92 = .ok (.getfield 37, 3) := by decide +kernel
theorem dX2_pass_95 : decode cX2_pass 95 = .ok (.iload 6, 2) := by decide +kernel
theorem dX2_pass_97 : decode cX2_pass 97 = .ok (.iconst 0, 1) := by decide +kernel
theorem dX2_pass_98 : decode cX2_pass 98 = .ok (.iastore, 1) := by decide +kernel
theorem dX2_pass_99 : decode cX2_pass 99 = .ok (.iinc 2 1, 3) := by decide +kernel
theorem dX2_pass_102 : decode cX2_pass 102 = .ok (.iinc 5 1, 3) := by decide +kernel
theorem dX2_pass_105 : decode cX2_pass 105 = .ok (.goto (-73), 3) := by decide +kernel
theorem dX2_pass_108 : decode cX2_pass 108 = .ok (.iinc 4 1, 3) := by decide +kernel
theorem dX2_pass_111 : decode cX2_pass 111 = .ok (.goto (-91), 3) := by decide +kernel
theorem dX2_pass_114 : decode cX2_pass 114 = .ok (.iload_n 2, 1) := by decide +kernel
theorem dX2_pass_115 : decode cX2_pass 115 = .ok (.ireturn, 1) := by decide +kernel
theorem dX2_isOver_0 : decode cX2_isOver 0 = .ok (.iload_n 2, 1) := by decide +kernel
theorem dX2_isOver_1 : decode cX2_isOver 1 = .ok (.aload_n 0, 1) := by decide +kernel
theorem dX2_isOver_2 : decode cX2_isOver 2 = .ok (.getfield 49, 3) := by decide +kernel
theorem dX2_isOver_5 : decode cX2_isOver 5 = .ok (.iload_n 1, 1) := by decide +kernel
theorem dX2_isOver_6 : decode cX2_isOver 6 = .ok (.iaload, 1) := by decide +kernel
theorem dX2_isOver_7 : decode cX2_isOver 7 = .ok (.iconst (-1), 1) := by decide +kernel
theorem dX2_isOver_8 : decode cX2_isOver 8 = .ok (.ixor, 1) := by decide +kernel
theorem dX2_isOver_9 : decode cX2_isOver 9 = .ok (.iand, 1) := by decide +kernel
theorem dX2_isOver_10 : decode cX2_isOver 10 = .ok (.ifCond .eq 21, 3) := by decide +kernel
theorem dX2_isOver_13 : decode cX2_isOver 13 = .ok (.aload_n 0, 1) := by decide +kernel
theorem dX2_isOver_14 : decode cX2_isOver 14 = .ok (.getfield 15, 3) := by decide +kernel
theorem dX2_isOver_17 : decode cX2_isOver 17 = .ok (.aload_n 0, 1) := by decide +kernel
theorem dX2_isOver_18 : decode cX2_isOver 18 = .ok (.getfield 46, 3) := by decide +kernel
theorem dX2_isOver_21 : decode cX2_isOver 21 = .ok (.iload_n 1, 1) := by decide +kernel
theorem dX2_isOver_22 : decode cX2_isOver 22 = .ok (.iaload, 1) := by decide +kernel
theorem dX2_isOver_23 : decode cX2_isOver 23 = .ok (.isub, 1) := by decide +kernel
theorem dX2_isOver_24 : decode cX2_isOver 24 = .ok (.aload_n 0, 1) := by decide +kernel
theorem dX2_isOver_25 : decode cX2_isOver 25 = .ok (.getfield 18, 3) := by decide +kernel
theorem dX2_isOver_28 : decode cX2_isOver 28 = .ok (.if_icmp .lt 7, 3) := by decide +kernel
theorem dX2_isOver_31 : decode cX2_isOver 31 = .ok (.iconst 1, 1) := by decide +kernel
theorem dX2_isOver_32 : decode cX2_isOver 32 = .ok (.goto 4, 3) := by decide +kernel
theorem dX2_isOver_35 : decode cX2_isOver 35 = .ok (.iconst 0, 1) := by decide +kernel
theorem dX2_isOver_36 : decode cX2_isOver 36 = .ok (.ireturn, 1) := by decide +kernel
theorem dX2_present_0 : decode cX2_present 0 = .ok (.iconst 0, 1) := by decide +kernel
theorem dX2_present_1 : decode cX2_present 1 = .ok (.istore_n 1, 1) := by decide +kernel
theorem dX2_present_2 : decode cX2_present 2 = .ok (.iconst 0, 1) := by decide +kernel
theorem dX2_present_3 : decode cX2_present 3 = .ok (.istore_n 2, 1) := by decide +kernel
theorem dX2_present_4 : decode cX2_present 4 = .ok (.iload_n 2, 1) := by decide +kernel
theorem dX2_present_5 : decode cX2_present 5 = .ok (.aload_n 0, 1) := by decide +kernel
theorem dX2_present_6 : decode cX2_present 6 = .ok (.getfield 9, 3) := by decide +kernel
theorem dX2_present_9 : decode cX2_present 9 = .ok (.if_icmp .ge 25, 3) := by decide +kernel
theorem dX2_present_12 : decode cX2_present 12 = .ok (.aload_n 0, 1) := by decide +kernel
theorem dX2_present_13 : decode cX2_present 13 = .ok (.getfield 24, 3) := by decide +kernel
theorem dX2_present_16 : decode cX2_present 16 = .ok (.iload_n 2, 1) := by decide +kernel
theorem dX2_present_17 : decode cX2_present 17 = .ok (.iaload, 1) := by decide +kernel
theorem dX2_present_18 : decode cX2_present 18 = .ok (.iconst 2, 1) := by decide +kernel
theorem dX2_present_19 : decode cX2_present 19 = .ok (.if_icmp .eq 9, 3) := by decide +kernel
theorem dX2_present_22 : decode cX2_present 22 = .ok (.iload_n 1, 1) := by decide +kernel
theorem dX2_present_23 : decode cX2_present 23 = .ok (.iconst 1, 1) := by decide +kernel
theorem dX2_present_24 : decode cX2_present 24 = .ok (.iload_n 2, 1) := by decide +kernel
theorem dX2_present_25 : decode cX2_present 25 = .ok (.ishl, 1) := by decide +kernel
theorem dX2_present_26 : decode cX2_present 26 = .ok (.ior, 1) := by decide +kernel
theorem dX2_present_27 : decode cX2_present 27 = .ok (.istore_n 1, 1) := by decide +kernel
theorem dX2_present_28 : decode cX2_present 28 = .ok (.iinc 2 1, 3) := by decide +kernel
theorem dX2_present_31 : decode cX2_present 31 = .ok (.goto (-27), 3) := by decide +kernel
theorem dX2_present_34 : decode cX2_present 34 = .ok (.iload_n 1, 1) := by decide +kernel
theorem dX2_present_35 : decode cX2_present 35 = .ok (.ireturn, 1) := by decide +kernel
theorem dX3_init_0 : decode cX3_init 0 = .ok (.aload_n 0, 1) := by decide +kernel
theorem dX3_init_1 : decode cX3_init 1 = .ok (.invokespecial 1, 3) := by decide +kernel
theorem dX3_init_4 : decode cX3_init 4 = .ok (.aload_n 0, 1) := by decide +kernel
theorem dX3_init_5 : decode cX3_init 5 = .ok (.new 7, 3) := by decide +kernel
theorem dX3_init_8 : decode cX3_init 8 = .ok (.dup, 1) := by decide +kernel
theorem dX3_init_9 : decode cX3_init 9 = .ok (.invokespecial 9, 3) := by decide +kernel
theorem dX3_init_12 : decode cX3_init 12 = .ok (.putfield 10, 3) := by decide +kernel
theorem dX3_init_15 : decode cX3_init 15 = .ok (.aload_n 0, 1) := by decide +kernel
theorem dX3_init_16 : decode cX3_init 16 = .ok (.new 7, 3) := by decide +kernel
theorem dX3_init_19 : decode cX3_init 19 = .ok (.dup, 1) := by decide +kernel
theorem dX3_init_20 : decode cX3_init 20 = .ok (.invokespecial 9, 3) := by decide +kernel
theorem dX3_init_23 : decode cX3_init 23 = .ok (.putfield 16, 3) := by decide +kernel
theorem dX3_init_26 : decode cX3_init 26 = .ok (.aload_n 0, 1) := by decide +kernel
theorem dX3_init_27 : decode cX3_init 27 = .ok (.new 19, 3) := by decide +kernel
theorem dX3_init_30 : decode cX3_init 30 = .ok (.dup, 1) := by decide +kernel
theorem dX3_init_31 : decode cX3_init 31 = .ok (.invokespecial 21, 3) := by decide +kernel
theorem dX3_init_34 : decode cX3_init 34 = .ok (.putfield 22, 3) := by decide +kernel
theorem dX3_init_37 : decode cX3_init 37 = .ok (.aload_n 0, 1) := by decide +kernel
theorem dX3_init_38 : decode cX3_init 38 = .ok (.new 26, 3) := by decide +kernel
theorem dX3_init_41 : decode cX3_init 41 = .ok (.dup, 1) := by decide +kernel
theorem dX3_init_42 : decode cX3_init 42 = .ok (.invokespecial 28, 3) := by decide +kernel
theorem dX3_init_45 : decode cX3_init 45 = .ok (.putfield 29, 3) := by decide +kernel
theorem dX3_init_48 : decode cX3_init 48 = .ok (.return_, 1) := by decide +kernel
theorem dX3_villager_0 : decode cX3_villager 0 = .ok (.aload_n 0, 1) := by decide +kernel
theorem dX3_villager_1 : decode cX3_villager 1 = .ok (.getfield 22, 3) := by decide +kernel
theorem dX3_villager_4 : decode cX3_villager 4 = .ok (.aload_n 0, 1) := by decide +kernel
theorem dX3_villager_5 : decode cX3_villager 5 = .ok (.getfield 10, 3) := by decide +kernel
theorem dX3_villager_8 : decode cX3_villager 8 = .ok (.invokevirtual 33, 3) := by decide +kernel
theorem dX3_villager_11 : decode cX3_villager 11 = .ok (.aload_n 0, 1) := by decide +kernel
theorem dX3_villager_12 : decode cX3_villager 12 = .ok (.aload_n 0, 1) := by decide +kernel
theorem dX3_villager_13 : decode cX3_villager 13 = .ok (.getfield 10, 3) := by decide +kernel
theorem dX3_villager_16 : decode cX3_villager 16 = .ok (.invokevirtual 37, 3) := by decide +kernel
theorem dX3_villager_19 : decode cX3_villager 19 = .ok (.invokevirtual 41, 3) := by decide +kernel
theorem dX3_villager_22 : decode cX3_villager 22 = .ok (.ireturn, 1) := by decide +kernel
theorem dX3_sleep_0 : decode cX3_sleep 0 = .ok (.aload_n 0, 1) := by decide +kernel
theorem dX3_sleep_1 : decode cX3_sleep 1 = .ok (.getfield 22, 3) := by decide +kernel
theorem dX3_sleep_4 : decode cX3_sleep 4 = .ok (.aload_n 0, 1) := by decide +kernel
theorem dX3_sleep_5 : decode cX3_sleep 5 = .ok (.getfield 10, 3) := by decide +kernel
theorem dX3_sleep_8 : decode cX3_sleep 8 = .ok (.invokevirtual 33, 3) := by decide +kernel
theorem dX3_sleep_11 : decode cX3_sleep 11 = .ok (.aload_n 0, 1) := by decide +kernel
theorem dX3_sleep_12 : decode cX3_sleep 12 = .ok (.aload_n 0, 1) := by decide +kernel
theorem dX3_sleep_13 : decode cX3_sleep 13 = .ok (.getfield 10, 3) := by decide +kernel
theorem dX3_sleep_16 : decode cX3_sleep 16 = .ok (.iload_n 1, 1) := by decide +kernel
theorem dX3_sleep_17 : decode cX3_sleep 17 = .ok (.invokevirtual 45, 3) := by decide +kernel
theorem dX3_sleep_20 : decode cX3_sleep 20 = .ok (.invokevirtual 41, 3) := by decide +kernel
theorem dX3_sleep_23 : decode cX3_sleep 23 = .ok (.ireturn, 1) := by decide +kernel
theorem dX3_wake_0 : decode cX3_wake 0 = .ok (.aload_n 0, 1) := by decide +kernel
theorem dX3_wake_1 : decode cX3_wake 1 = .ok (.getfield 22, 3) := by decide +kernel
theorem dX3_wake_4 : decode cX3_wake 4 = .ok (.aload_n 0, 1) := by decide +kernel
theorem dX3_wake_5 : decode cX3_wake 5 = .ok (.getfield 10, 3) := by decide +kernel
theorem dX3_wake_8 : decode cX3_wake 8 = .ok (.invokevirtual 33, 3) := by decide +kernel
theorem dX3_wake_11 : decode cX3_wake 11 = .ok (.aload_n 0, 1) := by decide +kernel
theorem dX3_wake_12 : decode cX3_wake 12 = .ok (.aload_n 0, 1) := by decide +kernel
theorem dX3_wake_13 : decode cX3_wake 13 = .ok (.getfield 10, 3) := by decide +kernel
theorem dX3_wake_16 : decode cX3_wake 16 = .ok (.iload_n 1, 1) := by decide +kernel
theorem dX3_wake_17 : decode cX3_wake 17 = .ok (.invokevirtual 48, 3) := by decide +kernel
theorem dX3_wake_20 : decode cX3_wake 20 = .ok (.invokevirtual 41, 3) := by decide +kernel
theorem dX3_wake_23 : decode cX3_wake 23 = .ok (.ireturn, 1) := by decide +kernel
theorem dX3_leave_0 : decode cX3_leave 0 = .ok (.aload_n 0, 1) := by decide +kernel
theorem dX3_leave_1 : decode cX3_leave 1 = .ok (.getfield 22, 3) := by decide +kernel
theorem dX3_leave_4 : decode cX3_leave 4 = .ok (.aload_n 0, 1) := by decide +kernel
theorem dX3_leave_5 : decode cX3_leave 5 = .ok (.getfield 10, 3) := by decide +kernel
theorem dX3_leave_8 : decode cX3_leave 8 = .ok (.invokevirtual 33, 3) := by decide +kernel
theorem dX3_leave_11 : decode cX3_leave 11 = .ok (.aload_n 0, 1) := by decide +kernel
theorem dX3_leave_12 : decode cX3_leave 12 = .ok (.aload_n 0, 1) := by decide +kernel
theorem dX3_leave_13 : decode cX3_leave 13 = .ok (.getfield 10, 3) := by decide +kernel
theorem dX3_leave_16 : decode cX3_leave 16 = .ok (.iload_n 1, 1) := by decide +kernel
theorem dX3_leave_17 : decode cX3_leave 17 = .ok (.invokevirtual 51, 3) := by decide +kernel
theorem dX3_leave_20 : decode cX3_leave 20 = .ok (.invokevirtual 41, 3) := by decide +kernel
theorem dX3_leave_23 : decode cX3_leave 23 = .ok (.ireturn, 1) := by decide +kernel
theorem dX3_watch_0 : decode cX3_watch 0 = .ok (.aload_n 0, 1) := by decide +kernel
theorem dX3_watch_1 : decode cX3_watch 1 = .ok (.getfield 22, 3) := by decide +kernel
theorem dX3_watch_4 : decode cX3_watch 4 = .ok (.aload_n 0, 1) := by decide +kernel
theorem dX3_watch_5 : decode cX3_watch 5 = .ok (.getfield 10, 3) := by decide +kernel
theorem dX3_watch_8 : decode cX3_watch 8 = .ok (.invokevirtual 33, 3) := by decide +kernel
theorem dX3_watch_11 : decode cX3_watch 11 = .ok (.aload_n 0, 1) := by decide +kernel
theorem dX3_watch_12 : decode cX3_watch 12 = .ok (.aload_n 0, 1) := by decide +kernel
theorem dX3_watch_13 : decode cX3_watch 13 = .ok (.getfield 10, 3) := by decide +kernel
theorem dX3_watch_16 : decode cX3_watch 16 = .ok (.iload_n 1, 1) := by decide +kernel
theorem dX3_watch_17 : decode cX3_watch 17 = .ok (.invokevirtual 54, 3) := by decide +kernel
theorem dX3_watch_20 : decode cX3_watch 20 = .ok (.invokevirtual 41, 3) := by decide +kernel
theorem dX3_watch_23 : decode cX3_watch 23 = .ok (.ireturn, 1) := by decide +kernel
theorem dX3_villagerOf_0 : decode cX3_villagerOf 0 = .ok (.aload_n 0, 1) := by decide +kernel
theorem dX3_villagerOf_1 : decode cX3_villagerOf 1 = .ok (.getfield 10, 3) := by decide +kernel
theorem dX3_villagerOf_4 : decode cX3_villagerOf 4 = .ok (.iload_n 1, 1) := by decide +kernel
theorem dX3_villagerOf_5 : decode cX3_villagerOf 5 = .ok (.invokevirtual 57, 3) := by decide +kernel
theorem dX3_villagerOf_8 : decode cX3_villagerOf 8 = .ok (.ifCond .ne 6, 3) := by decide +kernel
theorem dX3_villagerOf_11 : decode cX3_villagerOf 11 = .ok (.ldc 61, 2) := by decide +kernel
theorem dX3_villagerOf_13 : decode cX3_villagerOf 13 = .ok (.ireturn, 1) := by decide +kernel
theorem dX3_villagerOf_14 : decode cX3_villagerOf 14 = .ok (.iload_n 2, 1) := by decide +kernel
theorem dX3_villagerOf_15 : decode cX3_villagerOf 15 = .ok (.tableswitch 110 0 5 #[37, 47, 57, 66, 75, 85], 37) := by decide +kernel
theorem dX3_villagerOf_52 : decode cX3_villagerOf 52 = .ok (.aload_n 0, 1) := by decide +kernel
theorem dX3_villagerOf_53 : decode cX3_villagerOf 53 = .ok (.getfield 10, 3) := by decide +kernel
theorem dX3_villagerOf_56 : decode cX3_villagerOf 56 = .ok (.getfield 62, 3) := by decide +kernel
theorem dX3_villagerOf_59 : decode cX3_villagerOf 59 = .ok (.iload_n 1, 1) := by decide +kernel
theorem dX3_villagerOf_60 : decode cX3_villagerOf 60 = .ok (.iaload, 1) := by decide +kernel
theorem dX3_villagerOf_61 : decode cX3_villagerOf 61 = .ok (.ireturn, 1) := by decide +kernel
theorem dX3_villagerOf_62 : decode cX3_villagerOf 62 = .ok (.aload_n 0, 1) := by decide +kernel
theorem dX3_villagerOf_63 : decode cX3_villagerOf 63 = .ok (.getfield 10, 3) := by decide +kernel
theorem dX3_villagerOf_66 : decode cX3_villagerOf 66 = .ok (.getfield 66, 3) := by decide +kernel
theorem dX3_villagerOf_69 : decode cX3_villagerOf 69 = .ok (.iload_n 1, 1) := by decide +kernel
theorem dX3_villagerOf_70 : decode cX3_villagerOf 70 = .ok (.iaload, 1) := by decide +kernel
theorem dX3_villagerOf_71 : decode cX3_villagerOf 71 = .ok (.ireturn, 1) := by decide +kernel
theorem dX3_villagerOf_72 : decode cX3_villagerOf 72 = .ok (.aload_n 0, 1) := by decide +kernel
theorem dX3_villagerOf_73 : decode cX3_villagerOf 73 = .ok (.getfield 10, 3) := by decide +kernel
theorem dX3_villagerOf_76 : decode cX3_villagerOf 76 = .ok (.iload_n 1, 1) := by decide +kernel
theorem dX3_villagerOf_77 : decode cX3_villagerOf 77 = .ok (.invokevirtual 69, 3) := by decide +kernel
theorem dX3_villagerOf_80 : decode cX3_villagerOf 80 = .ok (.ireturn, 1) := by decide +kernel
theorem dX3_villagerOf_81 : decode cX3_villagerOf 81 = .ok (.aload_n 0, 1) := by decide +kernel
theorem dX3_villagerOf_82 : decode cX3_villagerOf 82 = .ok (.getfield 10, 3) := by decide +kernel
theorem dX3_villagerOf_85 : decode cX3_villagerOf 85 = .ok (.iload_n 1, 1) := by decide +kernel
theorem dX3_villagerOf_86 : decode cX3_villagerOf 86 = .ok (.invokevirtual 72, 3) := by decide +kernel
theorem dX3_villagerOf_89 : decode cX3_villagerOf 89 = .ok (.ireturn, 1) := by decide +kernel
theorem dX3_villagerOf_90 : decode cX3_villagerOf 90 = .ok (.aload_n 0, 1) := by decide +kernel
theorem dX3_villagerOf_91 : decode cX3_villagerOf 91 = .ok (.getfield 10, 3) := by decide +kernel
theorem dX3_villagerOf_94 : decode cX3_villagerOf 94 = .ok (.getfield 75, 3) := by decide +kernel
theorem dX3_villagerOf_97 : decode cX3_villagerOf 97 = .ok (.iload_n 1, 1) := by decide +kernel
theorem dX3_villagerOf_98 : decode cX3_villagerOf 98 = .ok (.iaload, 1) := by decide +kernel
theorem dX3_villagerOf_99 : decode cX3_villagerOf 99 = .ok (.ireturn, 1) := by decide +kernel
theorem dX3_villagerOf_100 : decode cX3_villagerOf 100 = .ok (.aload_n 0, 1) := by decide +kernel
theorem dX3_villagerOf_101 : decode cX3_villagerOf 101 = .ok (.getfield 10, 3) := by decide +kernel
theorem dX3_villagerOf_104 : decode cX3_villagerOf 104 = .ok (.iload_n 1, 1) := by decide +kernel
theorem dX3_villagerOf_105 : decode cX3_villagerOf 105 = .ok (.invokevirtual 78, 3) := by decide +kernel
theorem dX3_villagerOf_108 : decode cX3_villagerOf 108 = .ok (.ifCond .eq 14, 3) := by decide +kernel
theorem dX3_villagerOf_111 : decode cX3_villagerOf 111 = .ok (.aload_n 0, 1) := by decide +kernel
theorem dX3_villagerOf_112 : decode cX3_villagerOf 112 = .ok (.getfield 10, 3) := by decide +kernel
theorem dX3_villagerOf_115 : decode cX3_villagerOf 115 = .ok (.iload_n 1, 1) := by decide +kernel
theorem dX3_villagerOf_116 : decode cX3_villagerOf 116 = .ok (.invokevirtual 81, 3) := by decide +kernel
theorem dX3_villagerOf_119 : decode cX3_villagerOf 119 = .ok (.goto 5, 3) := by decide +kernel
theorem dX3_villagerOf_122 : decode cX3_villagerOf 122 = .ok (.ldc 84, 2) := by decide +kernel
theorem dX3_villagerOf_124 : decode cX3_villagerOf 124 = .ok (.ireturn, 1) := by decide +kernel
theorem dX3_villagerOf_125 : decode cX3_villagerOf 125 = .ok (.ldc 61, 2) := by decide +kernel
theorem dX3_villagerOf_127 : decode cX3_villagerOf 127 = .ok (.ireturn, 1) := by decide +kernel
theorem dX3_tell_0 : decode cX3_tell 0 = .ok (.aload_n 0, 1) := by decide +kernel
theorem dX3_tell_1 : decode cX3_tell 1 = .ok (.getfield 22, 3) := by decide +kernel
theorem dX3_tell_4 : decode cX3_tell 4 = .ok (.aload_n 0, 1) := by decide +kernel
theorem dX3_tell_5 : decode cX3_tell 5 = .ok (.getfield 10, 3) := by decide +kernel
theorem dX3_tell_8 : decode cX3_tell 8 = .ok (.invokevirtual 33, 3) := by decide +kernel
theorem dX3_tell_11 : decode cX3_tell 11 = .ok (.aload_n 0, 1) := by decide +kernel
theorem dX3_tell_12 : decode cX3_tell 12 = .ok (.aload_n 0, 1) := by decide +kernel
theorem dX3_tell_13 : decode cX3_tell 13 = .ok (.getfield 10, 3) := by decide +kernel
theorem dX3_tell_16 : decode cX3_tell 16 = .ok (.iload_n 1, 1) := by decide +kernel
theorem dX3_tell_17 : decode cX3_tell 17 = .ok (.iload_n 2, 1) := by decide +kernel
theorem dX3_tell_18 : decode cX3_tell 18 = .ok (.iload_n 3, 1) := by decide +kernel
theorem dX3_tell_19 : decode cX3_tell 19 = .ok (.iload 4, 2) := by decide +kernel
theorem dX3_tell_21 : decode cX3_tell 21 = .ok (.invokevirtual 85, 3) := by decide +kernel
theorem dX3_tell_24 : decode cX3_tell 24 = .ok (.invokevirtual 41, 3) := by decide +kernel
theorem dX3_tell_27 : decode cX3_tell 27 = .ok (.ireturn, 1) := by decide +kernel
theorem dX3_bury_0 : decode cX3_bury 0 = .ok (.aload_n 0, 1) := by decide +kernel
theorem dX3_bury_1 : decode cX3_bury 1 = .ok (.getfield 22, 3) := by decide +kernel
theorem dX3_bury_4 : decode cX3_bury 4 = .ok (.aload_n 0, 1) := by decide +kernel
theorem dX3_bury_5 : decode cX3_bury 5 = .ok (.getfield 10, 3) := by decide +kernel
theorem dX3_bury_8 : decode cX3_bury 8 = .ok (.invokevirtual 33, 3) := by decide +kernel
theorem dX3_bury_11 : decode cX3_bury 11 = .ok (.aload_n 0, 1) := by decide +kernel
theorem dX3_bury_12 : decode cX3_bury 12 = .ok (.aload_n 0, 1) := by decide +kernel
theorem dX3_bury_13 : decode cX3_bury 13 = .ok (.getfield 10, 3) := by decide +kernel
theorem dX3_bury_16 : decode cX3_bury 16 = .ok (.iload_n 1, 1) := by decide +kernel
theorem dX3_bury_17 : decode cX3_bury 17 = .ok (.iload_n 2, 1) := by decide +kernel
theorem dX3_bury_18 : decode cX3_bury 18 = .ok (.invokevirtual 89, 3) := by decide +kernel
theorem dX3_bury_21 : decode cX3_bury 21 = .ok (.invokevirtual 41, 3) := by decide +kernel
theorem dX3_bury_24 : decode cX3_bury 24 = .ok (.ireturn, 1) := by decide +kernel
theorem dX3_meet_0 : decode cX3_meet 0 = .ok (.aload_n 0, 1) := by decide +kernel
theorem dX3_meet_1 : decode cX3_meet 1 = .ok (.getfield 22, 3) := by decide +kernel
theorem dX3_meet_4 : decode cX3_meet 4 = .ok (.aload_n 0, 1) := by decide +kernel
theorem dX3_meet_5 : decode cX3_meet 5 = .ok (.getfield 10, 3) := by decide +kernel
theorem dX3_meet_8 : decode cX3_meet 8 = .ok (.invokevirtual 33, 3) := by decide +kernel
theorem dX3_meet_11 : decode cX3_meet 11 = .ok (.aload_n 0, 1) := by decide +kernel
theorem dX3_meet_12 : decode cX3_meet 12 = .ok (.aload_n 0, 1) := by decide +kernel
theorem dX3_meet_13 : decode cX3_meet 13 = .ok (.getfield 10, 3) := by decide +kernel
theorem dX3_meet_16 : decode cX3_meet 16 = .ok (.iload_n 1, 1) := by decide +kernel
theorem dX3_meet_17 : decode cX3_meet 17 = .ok (.iload_n 2, 1) := by decide +kernel
theorem dX3_meet_18 : decode cX3_meet 18 = .ok (.invokevirtual 93, 3) := by decide +kernel
theorem dX3_meet_21 : decode cX3_meet 21 = .ok (.invokevirtual 41, 3) := by decide +kernel
theorem dX3_meet_24 : decode cX3_meet 24 = .ok (.ireturn, 1) := by decide +kernel
theorem dX3_entryOf_0 : decode cX3_entryOf 0 = .ok (.aload_n 0, 1) := by decide +kernel
theorem dX3_entryOf_1 : decode cX3_entryOf 1 = .ok (.getfield 10, 3) := by decide +kernel
theorem dX3_entryOf_4 : decode cX3_entryOf 4 = .ok (.iload_n 1, 1) := by decide +kernel
theorem dX3_entryOf_5 : decode cX3_entryOf 5 = .ok (.invokevirtual 57, 3) := by decide +kernel
theorem dX3_entryOf_8 : decode cX3_entryOf 8 = .ok (.ifCond .eq 20, 3) := by decide +kernel
theorem dX3_entryOf_11 : decode cX3_entryOf 11 = .ok (.iload_n 2, 1) := by decide +kernel
theorem dX3_entryOf_12 : decode cX3_entryOf 12 = .ok (.invokestatic 96, 3) := by decide +kernel
theorem dX3_entryOf_15 : decode cX3_entryOf 15 = .ok (.ifCond .eq 13, 3) := by decide +kernel
theorem dX3_entryOf_18 : decode cX3_entryOf 18 = .ok (.iload_n 3, 1) := by decide +kernel
theorem dX3_entryOf_19 : decode cX3_entryOf 19 = .ok (.ifCond .lt 9, 3) := by decide +kernel
theorem dX3_entryOf_22 : decode cX3_entryOf 22 = .ok (.iload_n 3, 1) := by decide +kernel
theorem dX3_entryOf_23 : decode cX3_entryOf 23 = .ok (.bipush 7, 2) := by decide +kernel
theorem dX3_entryOf_25 : decode cX3_entryOf 25 = .ok (.if_icmp .le 6, 3) := by decide +kernel
theorem dX3_entryOf_28 : decode cX3_entryOf 28 = .ok (.ldc 61, 2) := by decide +kernel
theorem dX3_entryOf_30 : decode cX3_entryOf 30 = .ok (.ireturn, 1) := by decide +kernel
theorem dX3_entryOf_31 : decode cX3_entryOf 31 = .ok (.iload_n 1, 1) := by decide +kernel
theorem dX3_entryOf_32 : decode cX3_entryOf 32 = .ok (.iload_n 2, 1) := by decide +kernel
theorem dX3_entryOf_33 : decode cX3_entryOf 33 = .ok (.invokestatic 99, 3) := by decide +kernel
theorem dX3_entryOf_36 : decode cX3_entryOf 36 = .ok (.istore 4, 2) := by decide +kernel
theorem dX3_entryOf_38 : decode cX3_entryOf 38 = .ok (.aload_n 0, 1) := by decide +kernel
theorem dX3_entryOf_39 : decode cX3_entryOf 39 = .ok (.getfield 10, 3) := by decide +kernel
theorem dX3_entryOf_42 : decode cX3_entryOf 42 = .ok (.getfield 102, 3) := by decide +kernel
theorem dX3_entryOf_45 : decode cX3_entryOf 45 = .ok (.iload 4, 2) := by decide +kernel
theorem dX3_entryOf_47 : decode cX3_entryOf 47 = .ok (.iaload, 1) := by decide +kernel
theorem dX3_entryOf_48 : decode cX3_entryOf 48 = .ok (.ifCond .ne 6, 3) := by decide +kernel
theorem dX3_entryOf_51 : decode cX3_entryOf 51 = .ok (.ldc 84, 2) := by decide +kernel
theorem dX3_entryOf_53 : decode cX3_entryOf 53 = .ok (.ireturn, 1) := by decide +kernel
theorem dX3_entryOf_54 : decode cX3_entryOf 54 = .ok (.aload_n 0, 1) := by decide +kernel
theorem dX3_entryOf_55 : decode cX3_entryOf 55 = .ok (.getfield 10, 3) := by decide +kernel
theorem dX3_entryOf_58 : decode cX3_entryOf 58 = .ok (.iload 4, 2) := by decide +kernel
theorem dX3_entryOf_60 : decode cX3_entryOf 60 = .ok (.invokevirtual 105, 3) := by decide +kernel
theorem dX3_entryOf_63 : decode cX3_entryOf 63 = .ok (.istore 5, 2) := by decide +kernel
theorem dX3_entryOf_65 : decode cX3_entryOf 65 = .ok (.iload_n 3, 1) := by decide +kernel
theorem dX3_entryOf_66 : decode cX3_entryOf 66 = .ok (.tableswitch 161 0 6 #[42, 53, 67, 77, 98, 119, 140], 42) := by decide +kernel
theorem dX3_entryOf_108 : decode cX3_entryOf 108 = .ok (.iload 5, 2) := by decide +kernel
theorem dX3_entryOf_110 : decode cX3_entryOf 110 = .ok (.ifCond .eq 7, 3) := by decide +kernel
theorem dX3_entryOf_113 : decode cX3_entryOf 113 = .ok (.iconst 1, 1) := by decide +kernel
theorem dX3_entryOf_114 : decode cX3_entryOf 114 = .ok (.goto 4, 3) := by decide +kernel
theorem dX3_entryOf_117 : decode cX3_entryOf 117 = .ok (.iconst 0, 1) := by decide +kernel
theorem dX3_entryOf_118 : decode cX3_entryOf 118 = .ok (.ireturn, 1) := by decide +kernel
theorem dX3_entryOf_119 : decode cX3_entryOf 119 = .ok (.aload_n 0, 1) := by decide +kernel
theorem dX3_entryOf_120 : decode cX3_entryOf 120 = .ok (.getfield 10, 3) := by decide +kernel
theorem dX3_entryOf_123 : decode cX3_entryOf 123 = .ok (.getfield 102, 3) := by decide +kernel
theorem dX3_entryOf_126 : decode cX3_entryOf 126 = .ok (.iload 4, 2) := by decide +kernel
theorem dX3_entryOf_128 : decode cX3_entryOf 128 = .ok (.iaload, 1) := by decide +kernel
theorem dX3_entryOf_129 : decode cX3_entryOf 129 = .ok (.bipush 8, 2) := by decide +kernel
theorem dX3_entryOf_131 : decode cX3_entryOf 131 = .ok (.idiv, 1) := by decide +kernel
theorem dX3_entryOf_132 : decode cX3_entryOf 132 = .ok (.ireturn, 1) := by decide +kernel
theorem dX3_entryOf_133 : decode cX3_entryOf 133 = .ok (.aload_n 0, 1) := by decide +kernel
theorem dX3_entryOf_134 : decode cX3_entryOf 134 = .ok (.getfield 10, 3) := by decide +kernel
theorem dX3_entryOf_137 : decode cX3_entryOf 137 = .ok (.iload 4, 2) := by decide +kernel
theorem dX3_entryOf_139 : decode cX3_entryOf 139 = .ok (.invokevirtual 108, 3) := by decide +kernel
theorem dX3_entryOf_142 : decode cX3_entryOf 142 = .ok (.ireturn, 1) := by decide +kernel
theorem dX3_entryOf_143 : decode cX3_entryOf 143 = .ok (.iload 5, 2) := by decide +kernel
theorem dX3_entryOf_145 : decode cX3_entryOf 145 = .ok (.ifCond .eq 8, 3) := by decide +kernel
theorem dX3_entryOf_148 : decode cX3_entryOf 148 = .ok (.ldc 84, 2) := by decide +kernel
theorem dX3_entryOf_150 : decode cX3_entryOf 150 = .ok (.goto 13, 3) := by decide +kernel
theorem dX3_entryOf_153 : decode cX3_entryOf 153 = .ok (.aload_n 0, 1) := by decide +kernel
theorem dX3_entryOf_154 : decode cX3_entryOf 154 = .ok (.getfield 10, 3) := by decide +kernel
theorem dX3_entryOf_157 : decode cX3_entryOf 157 = .ok (.getfield 111, 3) := by decide +kernel
theorem dX3_entryOf_160 : decode cX3_entryOf 160 = .ok (.iload 4, 2) := by decide +kernel
theorem dX3_entryOf_162 : decode cX3_entryOf 162 = .ok (.iaload, 1) := by decide +kernel
theorem dX3_entryOf_163 : decode cX3_entryOf 163 = .ok (.ireturn, 1) := by decide +kernel
theorem dX3_entryOf_164 : decode cX3_entryOf 164 = .ok (.iload 5, 2) := by decide +kernel
theorem dX3_entryOf_166 : decode cX3_entryOf 166 = .ok (.ifCond .eq 8, 3) := by decide +kernel
theorem dX3_entryOf_169 : decode cX3_entryOf 169 = .ok (.ldc 84, 2) := by decide +kernel
theorem dX3_entryOf_171 : decode cX3_entryOf 171 = .ok (.goto 13, 3) := by decide +kernel
theorem dX3_entryOf_174 : decode cX3_entryOf 174 = .ok (.aload_n 0, 1) := by decide +kernel
theorem dX3_entryOf_175 : decode cX3_entryOf 175 = .ok (.getfield 10, 3) := by decide +kernel
theorem dX3_entryOf_178 : decode cX3_entryOf 178 = .ok (.getfield 114, 3) := by decide +kernel
theorem dX3_entryOf_181 : decode cX3_entryOf 181 = .ok (.iload 4, 2) := by decide +kernel
theorem dX3_entryOf_183 : decode cX3_entryOf 183 = .ok (.iaload, 1) := by decide +kernel
theorem dX3_entryOf_184 : decode cX3_entryOf 184 = .ok (.ireturn, 1) := by decide +kernel
theorem dX3_entryOf_185 : decode cX3_entryOf 185 = .ok (.iload 5, 2) := by decide +kernel
theorem dX3_entryOf_187 : decode cX3_entryOf 187 = .ok (.ifCond .eq 16, 3) := by decide +kernel
theorem dX3_entryOf_190 : decode cX3_entryOf 190 = .ok (.aload_n 0, 1) := by decide +kernel
theorem dX3_entryOf_191 : decode cX3_entryOf 191 = .ok (.getfield 10, 3) := by decide +kernel
theorem dX3_entryOf_194 : decode cX3_entryOf 194 = .ok (.getfield 117, 3) := by decide +kernel
theorem dX3_entryOf_197 : decode cX3_entryOf 197 = .ok (.iload 4, 2) := by decide +kernel
theorem dX3_entryOf_199 : decode cX3_entryOf 199 = .ok (.iaload, 1) := by decide +kernel
theorem dX3_entryOf_200 : decode cX3_entryOf 200 = .ok (.goto 5, 3) := by decide +kernel
theorem dX3_entryOf_203 : decode cX3_entryOf 203 = .ok (.ldc 84, 2) := by decide +kernel
theorem dX3_entryOf_205 : decode cX3_entryOf 205 = .ok (.ireturn, 1) := by decide +kernel
theorem dX3_entryOf_206 : decode cX3_entryOf 206 = .ok (.iload 5, 2) := by decide +kernel
theorem dX3_entryOf_208 : decode cX3_entryOf 208 = .ok (.ifCond .eq 16, 3) := by decide +kernel
theorem dX3_entryOf_211 : decode cX3_entryOf 211 = .ok (.aload_n 0, 1) := by decide +kernel
theorem dX3_entryOf_212 : decode cX3_entryOf 212 = .ok (.getfield 10, 3) := by decide +kernel
theorem dX3_entryOf_215 : decode cX3_entryOf 215 = .ok (.getfield 120, 3) := by decide +kernel
theorem dX3_entryOf_218 : decode cX3_entryOf 218 = .ok (.iload 4, 2) := by decide +kernel
theorem dX3_entryOf_220 : decode cX3_entryOf 220 = .ok (.iaload, 1) := by decide +kernel
theorem dX3_entryOf_221 : decode cX3_entryOf 221 = .ok (.goto 5, 3) := by decide +kernel
theorem dX3_entryOf_224 : decode cX3_entryOf 224 = .ok (.ldc 84, 2) := by decide +kernel
theorem dX3_entryOf_226 : decode cX3_entryOf 226 = .ok (.ireturn, 1) := by decide +kernel
theorem dX3_entryOf_227 : decode cX3_entryOf 227 = .ok (.iload 5, 2) := by decide +kernel
theorem dX3_entryOf_229 : decode cX3_entryOf 229 = .ok (.ifCond .eq 8, 3) := by decide +kernel
theorem dX3_entryOf_232 : decode cX3_entryOf 232 = .ok (.ldc 84, 2) := by decide +kernel
theorem dX3_entryOf_234 : decode cX3_entryOf 234 = .ok (.goto 20, 3) := by decide +kernel
theorem dX3_entryOf_237 : decode cX3_entryOf 237 = .ok (.aload_n 0, 1) := by decide +kernel
theorem dX3_entryOf_238 : decode cX3_entryOf 238 = .ok (.getfield 10, 3) := by decide +kernel
theorem dX3_entryOf_241 : decode cX3_entryOf 241 = .ok (.iload_n 1, 1) := by decide +kernel
theorem dX3_entryOf_242 : decode cX3_entryOf 242 = .ok (.iload_n 2, 1) := by decide +kernel
theorem dX3_entryOf_243 : decode cX3_entryOf 243 = .ok (.invokevirtual 123, 3) := by decide +kernel
theorem dX3_entryOf_246 : decode cX3_entryOf 246 = .ok (.ifCond .eq 7, 3) := by decide +kernel
theorem dX3_entryOf_249 : decode cX3_entryOf 249 = .ok (.iconst 1, 1) := by decide +kernel
theorem dX3_entryOf_250 : decode cX3_entryOf 250 = .ok (.goto 4, 3) := by decide +kernel
theorem dX3_entryOf_253 : decode cX3_entryOf 253 = .ok (.iconst 0, 1) := by decide +kernel
theorem dX3_entryOf_254 : decode cX3_entryOf 254 = .ok (.ireturn, 1) := by decide +kernel
theorem dX3_tick_0 : decode cX3_tick 0 = .ok (.aload_n 0, 1) := by decide +kernel
theorem dX3_tick_1 : decode cX3_tick 1 = .ok (.getfield 22, 3) := by decide +kernel
theorem dX3_tick_4 : decode cX3_tick 4 = .ok (.aload_n 0, 1) := by decide +kernel
theorem dX3_tick_5 : decode cX3_tick 5 = .ok (.getfield 10, 3) := by decide +kernel
theorem dX3_tick_8 : decode cX3_tick 8 = .ok (.invokevirtual 33, 3) := by decide +kernel
theorem dX3_tick_11 : decode cX3_tick 11 = .ok (.aload_n 0, 1) := by decide +kernel
theorem dX3_tick_12 : decode cX3_tick 12 = .ok (.aload_n 0, 1) := by decide +kernel
theorem dX3_tick_13 : decode cX3_tick 13 = .ok (.getfield 10, 3) := by decide +kernel
theorem dX3_tick_16 : decode cX3_tick 16 = .ok (.iload_n 1, 1) := by decide +kernel
theorem dX3_tick_17 : decode cX3_tick 17 = .ok (.invokevirtual 127, 3) := by decide +kernel
theorem dX3_tick_20 : decode cX3_tick 20 = .ok (.invokevirtual 41, 3) := by decide +kernel
theorem dX3_tick_23 : decode cX3_tick 23 = .ok (.ireturn, 1) := by decide +kernel
theorem dX3_newest_0 : decode cX3_newest 0 = .ok (.iload_n 1, 1) := by decide +kernel
theorem dX3_newest_1 : decode cX3_newest 1 = .ok (.invokestatic 96, 3) := by decide +kernel
theorem dX3_newest_4 : decode cX3_newest 4 = .ok (.ifCond .ne 6, 3) := by decide +kernel
theorem dX3_newest_7 : decode cX3_newest 7 = .ok (.ldc 61, 2) := by decide +kernel
theorem dX3_newest_9 : decode cX3_newest 9 = .ok (.ireturn, 1) := by decide +kernel
theorem dX3_newest_10 : decode cX3_newest 10 = .ok (.aload_n 0, 1) := by decide +kernel
theorem dX3_newest_11 : decode cX3_newest 11 = .ok (.getfield 10, 3) := by decide +kernel
theorem dX3_newest_14 : decode cX3_newest 14 = .ok (.iload_n 1, 1) := by decide +kernel
theorem dX3_newest_15 : decode cX3_newest 15 = .ok (.invokevirtual 130, 3) := by decide +kernel
theorem dX3_newest_18 : decode cX3_newest 18 = .ok (.istore_n 2, 1) := by decide +kernel
theorem dX3_newest_19 : decode cX3_newest 19 = .ok (.iload_n 2, 1) := by decide +kernel
theorem dX3_newest_20 : decode cX3_newest 20 = .ok (.ifCond .ne 8, 3) := by decide +kernel
theorem dX3_newest_23 : decode cX3_newest 23 = .ok (.ldc 84, 2) := by decide +kernel
theorem dX3_newest_25 : decode cX3_newest 25 = .ok (.goto 4, 3) := by decide +kernel
theorem dX3_newest_28 : decode cX3_newest 28 = .ok (.iload_n 2, 1) := by decide +kernel
theorem dX3_newest_29 : decode cX3_newest 29 = .ok (.ireturn, 1) := by decide +kernel
theorem dX3_unlike_0 : decode cX3_unlike 0 = .ok (.aload_n 0, 1) := by decide +kernel
theorem dX3_unlike_1 : decode cX3_unlike 1 = .ok (.getfield 10, 3) := by decide +kernel
theorem dX3_unlike_4 : decode cX3_unlike 4 = .ok (.iload_n 1, 1) := by decide +kernel
theorem dX3_unlike_5 : decode cX3_unlike 5 = .ok (.invokevirtual 57, 3) := by decide +kernel
theorem dX3_unlike_8 : decode cX3_unlike 8 = .ok (.ifCond .eq 14, 3) := by decide +kernel
theorem dX3_unlike_11 : decode cX3_unlike 11 = .ok (.aload_n 0, 1) := by decide +kernel
theorem dX3_unlike_12 : decode cX3_unlike 12 = .ok (.getfield 10, 3) := by decide +kernel
theorem dX3_unlike_15 : decode cX3_unlike 15 = .ok (.iload_n 2, 1) := by decide +kernel
theorem dX3_unlike_16 : decode cX3_unlike 16 = .ok (.invokevirtual 57, 3) := by decide +kernel
theorem dX3_unlike_19 : decode cX3_unlike 19 = .ok (.ifCond .ne 6, 3) := by decide +kernel
theorem dX3_unlike_22 : decode cX3_unlike 22 = .ok (.ldc 61, 2) := by decide +kernel
theorem dX3_unlike_24 : decode cX3_unlike 24 = .ok (.ireturn, 1) := by decide +kernel
theorem dX3_unlike_25 : decode cX3_unlike 25 = .ok (.aload_n 0, 1) := by decide +kernel
theorem dX3_unlike_26 : decode cX3_unlike 26 = .ok (.getfield 10, 3) := by decide +kernel
theorem dX3_unlike_29 : decode cX3_unlike 29 = .ok (.iload_n 1, 1) := by decide +kernel
theorem dX3_unlike_30 : decode cX3_unlike 30 = .ok (.iload_n 2, 1) := by decide +kernel
theorem dX3_unlike_31 : decode cX3_unlike 31 = .ok (.invokevirtual 133, 3) := by decide +kernel
theorem dX3_unlike_34 : decode cX3_unlike 34 = .ok (.ireturn, 1) := by decide +kernel
theorem dX3_dead_0 : decode cX3_dead 0 = .ok (.aload_n 0, 1) := by decide +kernel
theorem dX3_dead_1 : decode cX3_dead 1 = .ok (.getfield 10, 3) := by decide +kernel
theorem dX3_dead_4 : decode cX3_dead 4 = .ok (.iload_n 1, 1) := by decide +kernel
theorem dX3_dead_5 : decode cX3_dead 5 = .ok (.invokevirtual 57, 3) := by decide +kernel
theorem dX3_dead_8 : decode cX3_dead 8 = .ok (.ifCond .eq 14, 3) := by decide +kernel
theorem dX3_dead_11 : decode cX3_dead 11 = .ok (.aload_n 0, 1) := by decide +kernel
theorem dX3_dead_12 : decode cX3_dead 12 = .ok (.getfield 10, 3) := by decide +kernel
theorem dX3_dead_15 : decode cX3_dead 15 = .ok (.iload_n 1, 1) := by decide +kernel
theorem dX3_dead_16 : decode cX3_dead 16 = .ok (.invokevirtual 136, 3) := by decide +kernel
theorem dX3_dead_19 : decode cX3_dead 19 = .ok (.goto 5, 3) := by decide +kernel
theorem dX3_dead_22 : decode cX3_dead 22 = .ok (.ldc 61, 2) := by decide +kernel
theorem dX3_dead_24 : decode cX3_dead 24 = .ok (.ireturn, 1) := by decide +kernel
theorem dX3_ghosts_0 : decode cX3_ghosts 0 = .ok (.aload_n 0, 1) := by decide +kernel
theorem dX3_ghosts_1 : decode cX3_ghosts 1 = .ok (.getfield 10, 3) := by decide +kernel
theorem dX3_ghosts_4 : decode cX3_ghosts 4 = .ok (.iload_n 1, 1) := by decide +kernel
theorem dX3_ghosts_5 : decode cX3_ghosts 5 = .ok (.iload_n 2, 1) := by decide +kernel
theorem dX3_ghosts_6 : decode cX3_ghosts 6 = .ok (.invokevirtual 139, 3) := by decide +kernel
theorem dX3_ghosts_9 : decode cX3_ghosts 9 = .ok (.ifCond .eq 13, 3) := by decide +kernel
theorem dX3_ghosts_12 : decode cX3_ghosts 12 = .ok (.iload_n 3, 1) := by decide +kernel
theorem dX3_ghosts_13 : decode cX3_ghosts 13 = .ok (.ifCond .lt 9, 3) := by decide +kernel
theorem dX3_ghosts_16 : decode cX3_ghosts 16 = .ok (.iload_n 3, 1) := by decide +kernel
theorem dX3_ghosts_17 : decode cX3_ghosts 17 = .ok (.bipush 60, 2) := by decide +kernel
theorem dX3_ghosts_19 : decode cX3_ghosts 19 = .ok (.if_icmp .le 6, 3) := by decide +kernel
theorem dX3_ghosts_22 : decode cX3_ghosts 22 = .ok (.ldc 61, 2) := by decide +kernel
theorem dX3_ghosts_24 : decode cX3_ghosts 24 = .ok (.ireturn, 1) := by decide +kernel
theorem dX3_ghosts_25 : decode cX3_ghosts 25 = .ok (.aload_n 0, 1) := by decide +kernel
theorem dX3_ghosts_26 : decode cX3_ghosts 26 = .ok (.getfield 10, 3) := by decide +kernel
theorem dX3_ghosts_29 : decode cX3_ghosts 29 = .ok (.getfield 62, 3) := by decide +kernel
theorem dX3_ghosts_32 : decode cX3_ghosts 32 = .ok (.iload_n 1, 1) := by decide +kernel
theorem dX3_ghosts_33 : decode cX3_ghosts 33 = .ok (.iaload, 1) := by decide +kernel
theorem dX3_ghosts_34 : decode cX3_ghosts 34 = .ok (.iconst 2, 1) := by decide +kernel
theorem dX3_ghosts_35 : decode cX3_ghosts 35 = .ok (.if_icmp .eq 16, 3) := by decide +kernel
theorem dX3_ghosts_38 : decode cX3_ghosts 38 = .ok (.aload_n 0, 1) := by decide +kernel
theorem dX3_ghosts_39 : decode cX3_ghosts 39 = .ok (.getfield 10, 3) := by decide +kernel
theorem dX3_ghosts_42 : decode cX3_ghosts 42 = .ok (.getfield 62, 3) := by decide +kernel
theorem dX3_ghosts_45 : decode cX3_ghosts 45 = .ok (.iload_n 2, 1) := by decide +kernel
theorem dX3_ghosts_46 : decode cX3_ghosts 46 = .ok (.iaload, 1) := by decide +kernel
theorem dX3_ghosts_47 : decode cX3_ghosts 47 = .ok (.iconst 2, 1) := by decide +kernel
theorem dX3_ghosts_48 : decode cX3_ghosts 48 = .ok (.if_icmp .ne 6, 3) := by decide +kernel
theorem dX3_ghosts_51 : decode cX3_ghosts 51 = .ok (.ldc 142, 2) := by decide +kernel
theorem dX3_ghosts_53 : decode cX3_ghosts 53 = .ok (.ireturn, 1) := by decide +kernel
theorem dX3_ghosts_54 : decode cX3_ghosts 54 = .ok (.aload_n 0, 1) := by decide +kernel
theorem dX3_ghosts_55 : decode cX3_ghosts 55 = .ok (.getfield 16, 3) := by decide +kernel
theorem dX3_ghosts_58 : decode cX3_ghosts 58 = .ok (.aload_n 0, 1) := by decide +kernel
theorem dX3_ghosts_59 : decode cX3_ghosts 59 = .ok (.getfield 10, 3) := by decide +kernel
theorem dX3_ghosts_62 : decode cX3_ghosts 62 = .ok (.invokevirtual 143, 3) := by decide +kernel
theorem dX3_ghosts_65 : decode cX3_ghosts 65 = .ok (.iload_n 3, 1) := by decide +kernel
theorem dX3_ghosts_66 : decode cX3_ghosts 66 = .ok (.ifCond .le 12, 3) := by decide +kernel
theorem dX3_ghosts_69 : decode cX3_ghosts 69 = .ok (.aload_n 0, 1) := by decide +kernel
theorem dX3_ghosts_70 : decode cX3_ghosts 70 = .ok (.getfield 16, 3) := by decide +kernel
theorem dX3_ghosts_73 : decode cX3_ghosts 73 = .ok (.iload_n 3, 1) := by decide +kernel
theorem dX3_ghosts_74 : decode cX3_ghosts 74 = .ok (.invokevirtual 146, 3) := by decide +kernel
theorem dX3_ghosts_77 : decode cX3_ghosts 77 = .ok (.pop, 1) := by decide +kernel
theorem dX3_ghosts_78 : decode cX3_ghosts 78 = .ok (.aload_n 0, 1) := by decide +kernel
theorem dX3_ghosts_79 : decode cX3_ghosts 79 = .ok (.getfield 16, 3) := by decide +kernel
theorem dX3_ghosts_82 : decode cX3_ghosts 82 = .ok (.iload_n 1, 1) := by decide +kernel
theorem dX3_ghosts_83 : decode cX3_ghosts 83 = .ok (.iload_n 2, 1) := by decide +kernel
theorem dX3_ghosts_84 : decode cX3_ghosts 84 = .ok (.invokevirtual 149, 3) := by decide +kernel
theorem dX3_ghosts_87 : decode cX3_ghosts 87 = .ok (.pop, 1) := by decide +kernel
theorem dX3_ghosts_88 : decode cX3_ghosts 88 = .ok (.aload_n 0, 1) := by decide +kernel
theorem dX3_ghosts_89 : decode cX3_ghosts 89 = .ok (.getfield 16, 3) := by decide +kernel
theorem dX3_ghosts_92 : decode cX3_ghosts 92 = .ok (.invokevirtual 152, 3) := by decide +kernel
theorem dX3_ghosts_95 : decode cX3_ghosts 95 = .ok (.aload_n 0, 1) := by decide +kernel
theorem dX3_ghosts_96 : decode cX3_ghosts 96 = .ok (.getfield 10, 3) := by decide +kernel
theorem dX3_ghosts_99 : decode cX3_ghosts 99 = .ok (.invokevirtual 152, 3) := by decide +kernel
theorem dX3_ghosts_102 : decode cX3_ghosts 102 = .ok (.isub, 1) := by decide +kernel
theorem dX3_ghosts_103 : decode cX3_ghosts 103 = .ok (.ireturn, 1) := by decide +kernel
theorem dX3_bestMeeting_0 : decode cX3_bestMeeting 0 = .ok (.iload_n 1, 1) := by decide +kernel
theorem dX3_bestMeeting_1 : decode cX3_bestMeeting 1 = .ok (.ifCond .eq 11, 3) := by decide +kernel
theorem dX3_bestMeeting_4 : decode cX3_bestMeeting 4 = .ok (.iload_n 1, 1) := by decide +kernel
theorem dX3_bestMeeting_5 : decode cX3_bestMeeting 5 = .ok (.iconst 1, 1) := by decide +kernel
theorem dX3_bestMeeting_6 : decode cX3_bestMeeting 6 = .ok (.if_icmp .eq 6, 3) := by decide +kernel
theorem dX3_bestMeeting_9 : decode cX3_bestMeeting 9 = .ok (.ldc 61, 2) := by decide +kernel
theorem dX3_bestMeeting_11 : decode cX3_bestMeeting 11 = .ok (.ireturn, 1) := by decide +kernel
theorem dX3_bestMeeting_12 : decode cX3_bestMeeting 12 = .ok (.ldc 84, 2) := by decide +kernel
theorem dX3_bestMeeting_14 : decode cX3_bestMeeting 14 = .ok (.istore_n 2, 1) := by decide +kernel
theorem dX3_bestMeeting_15 : decode cX3_bestMeeting 15 = .ok (.ldc 84, 2) := by decide +kernel
theorem dX3_bestMeeting_17 : decode cX3_bestMeeting 17 = .ok (.istore_n 3, 1) := by decide +kernel
theorem dX3_bestMeeting_18 : decode cX3_bestMeeting 18 = .ok (.iconst 0, 1) := by decide +kernel
theorem dX3_bestMeeting_19 : decode cX3_bestMeeting 19 = .ok (.istore 4, 2) := by decide +kernel
theorem dX3_bestMeeting_21 : decode cX3_bestMeeting 21 = .ok (.iload 4, 2) := by decide +kernel
theorem dX3_bestMeeting_23 : decode cX3_bestMeeting 23 = .ok (.bipush 7, 2) := by decide +kernel
theorem dX3_bestMeeting_25 : decode cX3_bestMeeting 25 = .ok (.if_icmp .ge 83, 3) := by decide +kernel
theorem dX3_bestMeeting_28 : decode cX3_bestMeeting 28 = .ok (.iload 4, 2) := by decide +kernel
theorem dX3_bestMeeting_30 : decode cX3_bestMeeting 30 = .ok (.iconst 1, 1) := by decide +kernel
theorem dX3_bestMeeting_31 : decode cX3_bestMeeting 31 = .ok (.iadd, 1) := by decide +kernel
theorem dX3_bestMeeting_32 : decode cX3_bestMeeting 32 = .ok (.istore 5, 2) := by decide +kernel
theorem dX3_bestMeeting_34 : decode cX3_bestMeeting 34 = .ok (.iload 5, 2) := by decide +kernel
theorem dX3_bestMeeting_36 : decode cX3_bestMeeting 36 = .ok (.bipush 7, 2) := by decide +kernel
theorem dX3_bestMeeting_38 : decode cX3_bestMeeting 38 = .ok (.if_icmp .ge 64, 3) := by decide +kernel
theorem dX3_bestMeeting_41 : decode cX3_bestMeeting 41 = .ok (.aload_n 0, 1) := by decide +kernel
theorem dX3_bestMeeting_42 : decode cX3_bestMeeting 42 = .ok (.getfield 10, 3) := by decide +kernel
theorem dX3_bestMeeting_45 : decode cX3_bestMeeting 45 = .ok (.iload 4, 2) := by decide +kernel
theorem dX3_bestMeeting_47 : decode cX3_bestMeeting 47 = .ok (.invokevirtual 155, 3) := by decide +kernel
theorem dX3_bestMeeting_50 : decode cX3_bestMeeting 50 = .ok (.ifCond .eq 46, 3) := by decide +kernel
theorem dX3_bestMeeting_53 : decode cX3_bestMeeting 53 = .ok (.aload_n 0, 1) := by decide +kernel
theorem dX3_bestMeeting_54 : decode cX3_bestMeeting 54 = .ok (.getfield 10, 3) := by decide +kernel
theorem dX3_bestMeeting_57 : decode cX3_bestMeeting 57 = .ok (.iload 5, 2) := by decide +kernel
theorem dX3_bestMeeting_59 : decode cX3_bestMeeting 59 = .ok (.invokevirtual 155, 3) := by decide +kernel
theorem dX3_bestMeeting_62 : decode cX3_bestMeeting 62 = .ok (.ifCond .eq 34, 3) := by decide +kernel
theorem dX3_bestMeeting_65 : decode cX3_bestMeeting 65 = .ok (.aload_n 0, 1) := by decide +kernel
theorem dX3_bestMeeting_66 : decode cX3_bestMeeting 66 = .ok (.getfield 10, 3) := by decide +kernel
theorem dX3_bestMeeting_69 : decode cX3_bestMeeting 69 = .ok (.iload 4, 2) := by decide +kernel
theorem dX3_bestMeeting_71 : decode cX3_bestMeeting 71 = .ok (.iload 5, 2) := by decide +kernel
theorem dX3_bestMeeting_73 : decode cX3_bestMeeting 73 = .ok (.invokevirtual 158, 3) := by decide +kernel
theorem dX3_bestMeeting_76 : decode cX3_bestMeeting 76 = .ok (.istore 6, 2) := by decide +kernel
theorem dX3_bestMeeting_78 : decode cX3_bestMeeting 78 = .ok (.iload 6, 2) := by decide +kernel
theorem dX3_bestMeeting_80 : decode cX3_bestMeeting 80 = .ok (.iload_n 3, 1) := by decide +kernel
theorem dX3_bestMeeting_81 : decode cX3_bestMeeting 81 = .ok (.if_icmp .le 15, 3) := by decide +kernel
theorem dX3_bestMeeting_84 : decode cX3_bestMeeting 84 = .ok (.iload 6, 2) := by decide +kernel
theorem dX3_bestMeeting_86 : decode cX3_bestMeeting 86 = .ok (.istore_n 3, 1) := by decide +kernel
theorem dX3_bestMeeting_87 : decode cX3_bestMeeting 87 = .ok (.bipush 10, 2) := by decide +kernel
theorem dX3_bestMeeting_89 : decode cX3_bestMeeting 89 = .ok (.iload 4, 2) := by decide +kernel
theorem dX3_bestMeeting_91 : decode cX3_bestMeeting 91 = .ok (.imul, 1) := by decide +kernel
theorem dX3_bestMeeting_92 : decode cX3_bestMeeting 92 = .ok (.iload 5, 2) := by decide +kernel
theorem dX3_bestMeeting_94 : decode cX3_bestMeeting 94 = .ok (.iadd, 1) := by decide +kernel
theorem dX3_bestMeeting_95 : decode cX3_bestMeeting 95 = .ok (.istore_n 2, 1) := by decide +kernel
theorem dX3_bestMeeting_96 : decode cX3_bestMeeting 96 = .ok (.iinc 5 1, 3) := by decide +kernel
theorem dX3_bestMeeting_99 : decode cX3_bestMeeting 99 = .ok (.goto (-65), 3) := by decide +kernel
theorem dX3_bestMeeting_102 : decode cX3_bestMeeting 102 = .ok (.iinc 4 1, 3) := by decide +kernel
theorem dX3_bestMeeting_105 : decode cX3_bestMeeting 105 = .ok (.goto (-84), 3) := by decide +kernel
theorem dX3_bestMeeting_108 : decode cX3_bestMeeting 108 = .ok (.iload_n 1, 1) := by decide +kernel
theorem dX3_bestMeeting_109 : decode cX3_bestMeeting 109 = .ok (.ifCond .ne 7, 3) := by decide +kernel
theorem dX3_bestMeeting_112 : decode cX3_bestMeeting 112 = .ok (.iload_n 2, 1) := by decide +kernel
theorem dX3_bestMeeting_113 : decode cX3_bestMeeting 113 = .ok (.goto 4, 3) := by decide +kernel
theorem dX3_bestMeeting_116 : decode cX3_bestMeeting 116 = .ok (.iload_n 3, 1) := by decide +kernel
theorem dX3_bestMeeting_117 : decode cX3_bestMeeting 117 = .ok (.ireturn, 1) := by decide +kernel
theorem dX3_rounds_0 : decode cX3_rounds 0 = .ok (.aload_n 0, 1) := by decide +kernel
theorem dX3_rounds_1 : decode cX3_rounds 1 = .ok (.getfield 16, 3) := by decide +kernel
theorem dX3_rounds_4 : decode cX3_rounds 4 = .ok (.aload_n 0, 1) := by decide +kernel
theorem dX3_rounds_5 : decode cX3_rounds 5 = .ok (.getfield 10, 3) := by decide +kernel
theorem dX3_rounds_8 : decode cX3_rounds 8 = .ok (.invokevirtual 143, 3) := by decide +kernel
theorem dX3_rounds_11 : decode cX3_rounds 11 = .ok (.iconst 0, 1) := by decide +kernel
theorem dX3_rounds_12 : decode cX3_rounds 12 = .ok (.istore_n 1, 1) := by decide +kernel
theorem dX3_rounds_13 : decode cX3_rounds 13 = .ok (.iload_n 1, 1) := by decide +kernel
theorem dX3_rounds_14 : decode cX3_rounds 14 = .ok (.bipush 7, 2) := by decide +kernel
theorem dX3_rounds_16 : decode cX3_rounds 16 = .ok (.if_icmp .ge 28, 3) := by decide +kernel
theorem dX3_rounds_19 : decode cX3_rounds 19 = .ok (.aload_n 0, 1) := by decide +kernel
theorem dX3_rounds_20 : decode cX3_rounds 20 = .ok (.getfield 16, 3) := by decide +kernel
theorem dX3_rounds_23 : decode cX3_rounds 23 = .ok (.invokevirtual 161, 3) := by decide +kernel
theorem dX3_rounds_26 : decode cX3_rounds 26 = .ok (.ifCond .eq 5, 3) := by decide +kernel
theorem dX3_rounds_29 : decode cX3_rounds 29 = .ok (.iload_n 1, 1) := by decide +kernel
theorem dX3_rounds_30 : decode cX3_rounds 30 = .ok (.ireturn, 1) := by decide +kernel
theorem dX3_rounds_31 : decode cX3_rounds 31 = .ok (.aload_n 0, 1) := by decide +kernel
theorem dX3_rounds_32 : decode cX3_rounds 32 = .ok (.getfield 16, 3) := by decide +kernel
theorem dX3_rounds_35 : decode cX3_rounds 35 = .ok (.invokevirtual 165, 3) := by decide +kernel
theorem dX3_rounds_38 : decode cX3_rounds 38 = .ok (.iinc 1 1, 3) := by decide +kernel
theorem dX3_rounds_41 : decode cX3_rounds 41 = .ok (.goto (-28), 3) := by decide +kernel
theorem dX3_rounds_44 : decode cX3_rounds 44 = .ok (.aload_n 0, 1) := by decide +kernel
theorem dX3_rounds_45 : decode cX3_rounds 45 = .ok (.getfield 16, 3) := by decide +kernel
theorem dX3_rounds_48 : decode cX3_rounds 48 = .ok (.invokevirtual 161, 3) := by decide +kernel
theorem dX3_rounds_51 : decode cX3_rounds 51 = .ok (.ifCond .eq 8, 3) := by decide +kernel
theorem dX3_rounds_54 : decode cX3_rounds 54 = .ok (.bipush 7, 2) := by decide +kernel
theorem dX3_rounds_56 : decode cX3_rounds 56 = .ok (.goto 5, 3) := by decide +kernel
theorem dX3_rounds_59 : decode cX3_rounds 59 = .ok (.ldc 84, 2) := by decide +kernel
theorem dX3_rounds_61 : decode cX3_rounds 61 = .ok (.ireturn, 1) := by decide +kernel
theorem dX3_count_0 : decode cX3_count 0 = .ok (.iload_n 1, 1) := by decide +kernel
theorem dX3_count_1 : decode cX3_count 1 = .ok (.tableswitch 161 0 11 #[63, 71, 80, 89, 97, 105, 113, 121, 129, 137, 145, 153], 63) := by decide +kernel
theorem dX3_count_64 : decode cX3_count 64 = .ok (.aload_n 0, 1) := by decide +kernel
theorem dX3_count_65 : decode cX3_count 65 = .ok (.getfield 10, 3) := by decide +kernel
theorem dX3_count_68 : decode cX3_count 68 = .ok (.getfield 168, 3) := by decide +kernel
theorem dX3_count_71 : decode cX3_count 71 = .ok (.ireturn, 1) := by decide +kernel
theorem dX3_count_72 : decode cX3_count 72 = .ok (.aload_n 0, 1) := by decide +kernel
theorem dX3_count_73 : decode cX3_count 73 = .ok (.getfield 10, 3) := by decide +kernel
theorem dX3_count_76 : decode cX3_count 76 = .ok (.iconst 0, 1) := by decide +kernel
theorem dX3_count_77 : decode cX3_count 77 = .ok (.invokevirtual 172, 3) := by decide +kernel
theorem dX3_count_80 : decode cX3_count 80 = .ok (.ireturn, 1) := by decide +kernel
theorem dX3_count_81 : decode cX3_count 81 = .ok (.aload_n 0, 1) := by decide +kernel
theorem dX3_count_82 : decode cX3_count 82 = .ok (.getfield 10, 3) := by decide +kernel
theorem dX3_count_85 : decode cX3_count 85 = .ok (.iconst 1, 1) := by decide +kernel
theorem dX3_count_86 : decode cX3_count 86 = .ok (.invokevirtual 172, 3) := by decide +kernel
theorem dX3_count_89 : decode cX3_count 89 = .ok (.ireturn, 1) := by decide +kernel
theorem dX3_count_90 : decode cX3_count 90 = .ok (.aload_n 0, 1) := by decide +kernel
theorem dX3_count_91 : decode cX3_count 91 = .ok (.getfield 10, 3) := by decide +kernel
theorem dX3_count_94 : decode cX3_count 94 = .ok (.getfield 175, 3) := by decide +kernel
theorem dX3_count_97 : decode cX3_count 97 = .ok (.ireturn, 1) := by decide +kernel
theorem dX3_count_98 : decode cX3_count 98 = .ok (.aload_n 0, 1) := by decide +kernel
theorem dX3_count_99 : decode cX3_count 99 = .ok (.getfield 10, 3) := by decide +kernel
theorem dX3_count_102 : decode cX3_count 102 = .ok (.getfield 178, 3) := by decide +kernel
theorem dX3_count_105 : decode cX3_count 105 = .ok (.ireturn, 1) := by decide +kernel
theorem dX3_count_106 : decode cX3_count 106 = .ok (.aload_n 0, 1) := by decide +kernel
theorem dX3_count_107 : decode cX3_count 107 = .ok (.getfield 10, 3) := by decide +kernel
theorem dX3_count_110 : decode cX3_count 110 = .ok (.invokevirtual 181, 3) := by decide +kernel
theorem dX3_count_113 : decode cX3_count 113 = .ok (.ireturn, 1) := by decide +kernel
theorem dX3_count_114 : decode cX3_count 114 = .ok (.aload_n 0, 1) := by decide +kernel
theorem dX3_count_115 : decode cX3_count 115 = .ok (.getfield 10, 3) := by decide +kernel
theorem dX3_count_118 : decode cX3_count 118 = .ok (.invokevirtual 184, 3) := by decide +kernel
theorem dX3_count_121 : decode cX3_count 121 = .ok (.ireturn, 1) := by decide +kernel
theorem dX3_count_122 : decode cX3_count 122 = .ok (.aload_n 0, 1) := by decide +kernel
theorem dX3_count_123 : decode cX3_count 123 = .ok (.getfield 10, 3) := by decide +kernel
theorem dX3_count_126 : decode cX3_count 126 = .ok (.invokevirtual 187, 3) := by decide +kernel
theorem dX3_count_129 : decode cX3_count 129 = .ok (.ireturn, 1) := by decide +kernel
theorem dX3_count_130 : decode cX3_count 130 = .ok (.aload_n 0, 1) := by decide +kernel
theorem dX3_count_131 : decode cX3_count 131 = .ok (.getfield 10, 3) := by decide +kernel
theorem dX3_count_134 : decode cX3_count 134 = .ok (.invokevirtual 152, 3) := by decide +kernel
theorem dX3_count_137 : decode cX3_count 137 = .ok (.ireturn, 1) := by decide +kernel
theorem dX3_count_138 : decode cX3_count 138 = .ok (.aload_n 0, 1) := by decide +kernel
theorem dX3_count_139 : decode cX3_count 139 = .ok (.getfield 10, 3) := by decide +kernel
theorem dX3_count_142 : decode cX3_count 142 = .ok (.getfield 190, 3) := by decide +kernel
theorem dX3_count_145 : decode cX3_count 145 = .ok (.ireturn, 1) := by decide +kernel
theorem dX3_count_146 : decode cX3_count 146 = .ok (.aload_n 0, 1) := by decide +kernel
theorem dX3_count_147 : decode cX3_count 147 = .ok (.getfield 22, 3) := by decide +kernel
theorem dX3_count_150 : decode cX3_count 150 = .ok (.getfield 193, 3) := by decide +kernel
theorem dX3_count_153 : decode cX3_count 153 = .ok (.ireturn, 1) := by decide +kernel
theorem dX3_count_154 : decode cX3_count 154 = .ok (.aload_n 0, 1) := by decide +kernel
theorem dX3_count_155 : decode cX3_count 155 = .ok (.getfield 29, 3) := by decide +kernel
theorem dX3_count_158 : decode cX3_count 158 = .ok (.getfield 196, 3) := by decide +kernel
theorem dX3_count_161 : decode cX3_count 161 = .ok (.ireturn, 1) := by decide +kernel
theorem dX3_count_162 : decode cX3_count 162 = .ok (.ldc 61, 2) := by decide +kernel
theorem dX3_count_164 : decode cX3_count 164 = .ok (.ireturn, 1) := by decide +kernel
theorem dX3_undo_0 : decode cX3_undo 0 = .ok (.aload_n 0, 1) := by decide +kernel
theorem dX3_undo_1 : decode cX3_undo 1 = .ok (.getfield 22, 3) := by decide +kernel
theorem dX3_undo_4 : decode cX3_undo 4 = .ok (.getfield 193, 3) := by decide +kernel
theorem dX3_undo_7 : decode cX3_undo 7 = .ok (.ifCond .ne 6, 3) := by decide +kernel
theorem dX3_undo_10 : decode cX3_undo 10 = .ok (.ldc 142, 2) := by decide +kernel
theorem dX3_undo_12 : decode cX3_undo 12 = .ok (.ireturn, 1) := by decide +kernel
theorem dX3_undo_13 : decode cX3_undo 13 = .ok (.aload_n 0, 1) := by decide +kernel
theorem dX3_undo_14 : decode cX3_undo 14 = .ok (.getfield 22, 3) := by decide +kernel
theorem dX3_undo_17 : decode cX3_undo 17 = .ok (.aload_n 0, 1) := by decide +kernel
theorem dX3_undo_18 : decode cX3_undo 18 = .ok (.getfield 10, 3) := by decide +kernel
theorem dX3_undo_21 : decode cX3_undo 21 = .ok (.invokevirtual 199, 3) := by decide +kernel
theorem dX3_undo_24 : decode cX3_undo 24 = .ok (.aload_n 0, 1) := by decide +kernel
theorem dX3_undo_25 : decode cX3_undo 25 = .ok (.getfield 22, 3) := by decide +kernel
theorem dX3_undo_28 : decode cX3_undo 28 = .ok (.getfield 193, 3) := by decide +kernel
theorem dX3_undo_31 : decode cX3_undo 31 = .ok (.ireturn, 1) := by decide +kernel
theorem dX3_type_0 : decode cX3_type 0 = .ok (.iload_n 1, 1) := by decide +kernel
theorem dX3_type_1 : decode cX3_type 1 = .ok (.bipush 32, 2) := by decide +kernel
theorem dX3_type_3 : decode cX3_type 3 = .ok (.if_icmp .lt 9, 3) := by decide +kernel
theorem dX3_type_6 : decode cX3_type 6 = .ok (.iload_n 1, 1) := by decide +kernel
theorem dX3_type_7 : decode cX3_type 7 = .ok (.bipush 126, 2) := by decide +kernel
theorem dX3_type_9 : decode cX3_type 9 = .ok (.if_icmp .le 6, 3) := by decide +kernel
theorem dX3_type_12 : decode cX3_type 12 = .ok (.ldc 61, 2) := by decide +kernel
theorem dX3_type_14 : decode cX3_type 14 = .ok (.ireturn, 1) := by decide +kernel
theorem dX3_type_15 : decode cX3_type 15 = .ok (.aload_n 0, 1) := by decide +kernel
theorem dX3_type_16 : decode cX3_type 16 = .ok (.getfield 29, 3) := by decide +kernel
theorem dX3_type_19 : decode cX3_type 19 = .ok (.iload_n 1, 1) := by decide +kernel
theorem dX3_type_20 : decode cX3_type 20 = .ok (.i2c, 1) := by decide +kernel
theorem dX3_type_21 : decode cX3_type 21 = .ok (.invokevirtual 202, 3) := by decide +kernel
theorem dX3_type_24 : decode cX3_type 24 = .ok (.ifCond .eq 13, 3) := by decide +kernel
theorem dX3_type_27 : decode cX3_type 27 = .ok (.aload_n 0, 1) := by decide +kernel
theorem dX3_type_28 : decode cX3_type 28 = .ok (.getfield 29, 3) := by decide +kernel
theorem dX3_type_31 : decode cX3_type 31 = .ok (.getfield 196, 3) := by decide +kernel
theorem dX3_type_34 : decode cX3_type 34 = .ok (.goto 5, 3) := by decide +kernel
theorem dX3_type_37 : decode cX3_type 37 = .ok (.ldc 206, 2) := by decide +kernel
theorem dX3_type_39 : decode cX3_type 39 = .ok (.ireturn, 1) := by decide +kernel
theorem dX3_clearText_0 : decode cX3_clearText 0 = .ok (.aload_n 0, 1) := by decide +kernel
theorem dX3_clearText_1 : decode cX3_clearText 1 = .ok (.getfield 29, 3) := by decide +kernel
theorem dX3_clearText_4 : decode cX3_clearText 4 = .ok (.getfield 196, 3) := by decide +kernel
theorem dX3_clearText_7 : decode cX3_clearText 7 = .ok (.istore_n 1, 1) := by decide +kernel
theorem dX3_clearText_8 : decode cX3_clearText 8 = .ok (.aload_n 0, 1) := by decide +kernel
theorem dX3_clearText_9 : decode cX3_clearText 9 = .ok (.getfield 29, 3) := by decide +kernel
theorem dX3_clearText_12 : decode cX3_clearText 12 = .ok (.iconst 0, 1) := by decide +kernel
theorem dX3_clearText_13 : decode cX3_clearText 13 = .ok (.putfield 196, 3) := by decide +kernel
theorem dX3_clearText_16 : decode cX3_clearText 16 = .ok (.iload_n 1, 1) := by decide +kernel
theorem dX3_clearText_17 : decode cX3_clearText 17 = .ok (.ireturn, 1) := by decide +kernel
theorem dX3_fault_0 : decode cX3_fault 0 = .ok (.iload_n 1, 1) := by decide +kernel
theorem dX3_fault_1 : decode cX3_fault 1 = .ok (.ifCond .eq 11, 3) := by decide +kernel
theorem dX3_fault_4 : decode cX3_fault 4 = .ok (.iload_n 1, 1) := by decide +kernel
theorem dX3_fault_5 : decode cX3_fault 5 = .ok (.iconst 1, 1) := by decide +kernel
theorem dX3_fault_6 : decode cX3_fault 6 = .ok (.if_icmp .eq 6, 3) := by decide +kernel
theorem dX3_fault_9 : decode cX3_fault 9 = .ok (.ldc 61, 2) := by decide +kernel
theorem dX3_fault_11 : decode cX3_fault 11 = .ok (.ireturn, 1) := by decide +kernel
theorem dX3_fault_12 : decode cX3_fault 12 = .ok (.aload_n 0, 1) := by decide +kernel
theorem dX3_fault_13 : decode cX3_fault 13 = .ok (.getfield 16, 3) := by decide +kernel
theorem dX3_fault_16 : decode cX3_fault 16 = .ok (.aload_n 0, 1) := by decide +kernel
theorem dX3_fault_17 : decode cX3_fault 17 = .ok (.getfield 10, 3) := by decide +kernel
theorem dX3_fault_20 : decode cX3_fault 20 = .ok (.invokevirtual 143, 3) := by decide +kernel
theorem dX3_fault_23 : decode cX3_fault 23 = .ok (.aload_n 0, 1) := by decide +kernel
theorem dX3_fault_24 : decode cX3_fault 24 = .ok (.getfield 29, 3) := by decide +kernel
theorem dX3_fault_27 : decode cX3_fault 27 = .ok (.aload_n 0, 1) := by decide +kernel
theorem dX3_fault_28 : decode cX3_fault 28 = .ok (.getfield 16, 3) := by decide +kernel
theorem dX3_fault_31 : decode cX3_fault 31 = .ok (.invokevirtual 207, 3) := by decide +kernel
theorem dX3_fault_34 : decode cX3_fault 34 = .ok (.aload_n 0, 1) := by decide +kernel
theorem dX3_fault_35 : decode cX3_fault 35 = .ok (.getfield 29, 3) := by decide +kernel
theorem dX3_fault_38 : decode cX3_fault 38 = .ok (.getfield 210, 3) := by decide +kernel
theorem dX3_fault_41 : decode cX3_fault 41 = .ok (.ifCond .ne 6, 3) := by decide +kernel
theorem dX3_fault_44 : decode cX3_fault 44 = .ok (.ldc 84, 2) := by decide +kernel
theorem dX3_fault_46 : decode cX3_fault 46 = .ok (.ireturn, 1) := by decide +kernel
theorem dX3_fault_47 : decode cX3_fault 47 = .ok (.iload_n 1, 1) := by decide +kernel
theorem dX3_fault_48 : decode cX3_fault 48 = .ok (.ifCond .ne 13, 3) := by decide +kernel
theorem dX3_fault_51 : decode cX3_fault 51 = .ok (.aload_n 0, 1) := by decide +kernel
theorem dX3_fault_52 : decode cX3_fault 52 = .ok (.getfield 29, 3) := by decide +kernel
theorem dX3_fault_55 : decode cX3_fault 55 = .ok (.getfield 213, 3) := by decide +kernel
theorem dX3_fault_58 : decode cX3_fault 58 = .ok (.goto 10, 3) := by decide +kernel
theorem dX3_fault_61 : decode cX3_fault 61 = .ok (.aload_n 0, 1) := by decide +kernel
theorem dX3_fault_62 : decode cX3_fault 62 = .ok (.getfield 29, 3) := by decide +kernel
theorem dX3_fault_65 : decode cX3_fault 65 = .ok (.getfield 210, 3) := by decide +kernel
theorem dX3_fault_68 : decode cX3_fault 68 = .ok (.ireturn, 1) := by decide +kernel
theorem dX3_play_0 : decode cX3_play 0 = .ok (.aload_n 0, 1) := by decide +kernel
theorem dX3_play_1 : decode cX3_play 1 = .ok (.getfield 16, 3) := by decide +kernel
theorem dX3_play_4 : decode cX3_play 4 = .ok (.aload_n 0, 1) := by decide +kernel
theorem dX3_play_5 : decode cX3_play 5 = .ok (.getfield 10, 3) := by decide +kernel
theorem dX3_play_8 : decode cX3_play 8 = .ok (.invokevirtual 143, 3) := by decide +kernel
theorem dX3_play_11 : decode cX3_play 11 = .ok (.aload_n 0, 1) := by decide +kernel
theorem dX3_play_12 : decode cX3_play 12 = .ok (.getfield 29, 3) := by decide +kernel
theorem dX3_play_15 : decode cX3_play 15 = .ok (.aload_n 0, 1) := by decide +kernel
theorem dX3_play_16 : decode cX3_play 16 = .ok (.getfield 16, 3) := by decide +kernel
theorem dX3_play_19 : decode cX3_play 19 = .ok (.invokevirtual 207, 3) := by decide +kernel
theorem dX3_play_22 : decode cX3_play 22 = .ok (.aload_n 0, 1) := by decide +kernel
theorem dX3_play_23 : decode cX3_play 23 = .ok (.getfield 29, 3) := by decide +kernel
theorem dX3_play_26 : decode cX3_play 26 = .ok (.getfield 210, 3) := by decide +kernel
theorem dX3_play_29 : decode cX3_play 29 = .ok (.ifCond .eq 6, 3) := by decide +kernel
theorem dX3_play_32 : decode cX3_play 32 = .ok (.ldc 142, 2) := by decide +kernel
theorem dX3_play_34 : decode cX3_play 34 = .ok (.ireturn, 1) := by decide +kernel
theorem dX3_play_35 : decode cX3_play 35 = .ok (.aload_n 0, 1) := by decide +kernel
theorem dX3_play_36 : decode cX3_play 36 = .ok (.getfield 22, 3) := by decide +kernel
theorem dX3_play_39 : decode cX3_play 39 = .ok (.aload_n 0, 1) := by decide +kernel
theorem dX3_play_40 : decode cX3_play 40 = .ok (.getfield 10, 3) := by decide +kernel
theorem dX3_play_43 : decode cX3_play 43 = .ok (.invokevirtual 33, 3) := by decide +kernel
theorem dX3_play_46 : decode cX3_play 46 = .ok (.aload_n 0, 1) := by decide +kernel
theorem dX3_play_47 : decode cX3_play 47 = .ok (.getfield 10, 3) := by decide +kernel
theorem dX3_play_50 : decode cX3_play 50 = .ok (.aload_n 0, 1) := by decide +kernel
theorem dX3_play_51 : decode cX3_play 51 = .ok (.getfield 16, 3) := by decide +kernel
theorem dX3_play_54 : decode cX3_play 54 = .ok (.invokevirtual 143, 3) := by decide +kernel
theorem dX3_play_57 : decode cX3_play 57 = .ok (.aload_n 0, 1) := by decide +kernel
theorem dX3_play_58 : decode cX3_play 58 = .ok (.aload_n 0, 1) := by decide +kernel
theorem dX3_play_59 : decode cX3_play 59 = .ok (.getfield 29, 3) := by decide +kernel
theorem dX3_play_62 : decode cX3_play 62 = .ok (.getfield 216, 3) := by decide +kernel
theorem dX3_play_65 : decode cX3_play 65 = .ok (.invokevirtual 41, 3) := by decide +kernel
theorem dX3_play_68 : decode cX3_play 68 = .ok (.ireturn, 1) := by decide +kernel
theorem dX3_recorded_0 : decode cX3_recorded 0 = .ok (.iload_n 1, 1) := by decide +kernel
theorem dX3_recorded_1 : decode cX3_recorded 1 = .ok (.ifCond .lt 10, 3) := by decide +kernel
theorem dX3_recorded_4 : decode cX3_recorded 4 = .ok (.aload_n 0, 1) := by decide +kernel
theorem dX3_recorded_5 : decode cX3_recorded 5 = .ok (.getfield 22, 3) := by decide +kernel
theorem dX3_recorded_8 : decode cX3_recorded 8 = .ok (.invokevirtual 219, 3) := by decide +kernel
theorem dX3_recorded_11 : decode cX3_recorded 11 = .ok (.iload_n 1, 1) := by decide +kernel
theorem dX3_recorded_12 : decode cX3_recorded 12 = .ok (.ireturn, 1) := by decide +kernel
theorem dX3_isTopic_0 : decode cX3_isTopic 0 = .ok (.iload_n 0, 1) := by decide +kernel
theorem dX3_isTopic_1 : decode cX3_isTopic 1 = .ok (.ifCond .lt 13, 3) := by decide +kernel
theorem dX3_isTopic_4 : decode cX3_isTopic 4 = .ok (.iload_n 0, 1) := by decide +kernel
theorem dX3_isTopic_5 : decode cX3_isTopic 5 = .ok (.bipush 12, 2) := by decide +kernel
theorem dX3_isTopic_7 : decode cX3_isTopic 7 = .ok (.if_icmp .ge 7, 3) := by decide +kernel
theorem dX3_isTopic_10 : decode cX3_isTopic 10 = .ok (.iconst 1, 1) := by decide +kernel
theorem dX3_isTopic_11 : decode cX3_isTopic 11 = .ok (.goto 4, 3) := by decide +kernel
theorem dX3_isTopic_14 : decode cX3_isTopic 14 = .ok (.iconst 0, 1) := by decide +kernel
theorem dX3_isTopic_15 : decode cX3_isTopic 15 = .ok (.ireturn, 1) := by decide +kernel
theorem dX3_place_0 : decode cX3_place 0 = .ok (.iload_n 0, 1) := by decide +kernel
theorem dX3_place_1 : decode cX3_place 1 = .ok (.bipush 12, 2) := by decide +kernel
theorem dX3_place_3 : decode cX3_place 3 = .ok (.imul, 1) := by decide +kernel
theorem dX3_place_4 : decode cX3_place 4 = .ok (.iload_n 1, 1) := by decide +kernel
theorem dX3_place_5 : decode cX3_place 5 = .ok (.iadd, 1) := by decide +kernel
theorem dX3_place_6 : decode cX3_place 6 = .ok (.ireturn, 1) := by decide +kernel
theorem dJ6_bitCount_0f7a4_0 : decode cJ6_bitCount_0f7a4 0 = .ok (.iload_n 0, 1) := by decide +kernel
theorem dJ6_bitCount_0f7a4_1 : decode cJ6_bitCount_0f7a4 1 = .ok (.iload_n 0, 1) := by decide +kernel
theorem dJ6_bitCount_0f7a4_2 : decode cJ6_bitCount_0f7a4 2 = .ok (.iconst 1, 1) := by decide +kernel
theorem dJ6_bitCount_0f7a4_3 : decode cJ6_bitCount_0f7a4 3 = .ok (.iushr, 1) := by decide +kernel
theorem dJ6_bitCount_0f7a4_4 : decode cJ6_bitCount_0f7a4 4 = .ok (.ldc_w 265, 3) := by decide +kernel
theorem dJ6_bitCount_0f7a4_7 : decode cJ6_bitCount_0f7a4 7 = .ok (.iand, 1) := by decide +kernel
theorem dJ6_bitCount_0f7a4_8 : decode cJ6_bitCount_0f7a4 8 = .ok (.isub, 1) := by decide +kernel
theorem dJ6_bitCount_0f7a4_9 : decode cJ6_bitCount_0f7a4 9 = .ok (.istore_n 0, 1) := by decide +kernel
theorem dJ6_bitCount_0f7a4_10 : decode cJ6_bitCount_0f7a4 10 = .ok (.iload_n 0, 1) := by decide +kernel
theorem dJ6_bitCount_0f7a4_11 : decode cJ6_bitCount_0f7a4 11 = .ok (.ldc_w 266, 3) := by decide +kernel
theorem dJ6_bitCount_0f7a4_14 : decode cJ6_bitCount_0f7a4 14 = .ok (.iand, 1) := by decide +kernel
theorem dJ6_bitCount_0f7a4_15 : decode cJ6_bitCount_0f7a4 15 = .ok (.iload_n 0, 1) := by decide +kernel
theorem dJ6_bitCount_0f7a4_16 : decode cJ6_bitCount_0f7a4 16 = .ok (.iconst 2, 1) := by decide +kernel
theorem dJ6_bitCount_0f7a4_17 : decode cJ6_bitCount_0f7a4 17 = .ok (.iushr, 1) := by decide +kernel
theorem dJ6_bitCount_0f7a4_18 : decode cJ6_bitCount_0f7a4 18 = .ok (.ldc_w 266, 3) := by decide +kernel
theorem dJ6_bitCount_0f7a4_21 : decode cJ6_bitCount_0f7a4 21 = .ok (.iand, 1) := by decide +kernel
theorem dJ6_bitCount_0f7a4_22 : decode cJ6_bitCount_0f7a4 22 = .ok (.iadd, 1) := by decide +kernel
theorem dJ6_bitCount_0f7a4_23 : decode cJ6_bitCount_0f7a4 23 = .ok (.istore_n 0, 1) := by decide +kernel
theorem dJ6_bitCount_0f7a4_24 : decode cJ6_bitCount_0f7a4 24 = .ok (.iload_n 0, 1) := by decide +kernel
theorem dJ6_bitCount_0f7a4_25 : decode cJ6_bitCount_0f7a4 25 = .ok (.iload_n 0, 1) := by decide +kernel
theorem dJ6_bitCount_0f7a4_26 : decode cJ6_bitCount_0f7a4 26 = .ok (.iconst 4, 1) := by decide +kernel
theorem dJ6_bitCount_0f7a4_27 : decode cJ6_bitCount_0f7a4 27 = .ok (.iushr, 1) := by decide +kernel
theorem dJ6_bitCount_0f7a4_28 : decode cJ6_bitCount_0f7a4 28 = .ok (.iadd, 1) := by decide +kernel
theorem dJ6_bitCount_0f7a4_29 : decode cJ6_bitCount_0f7a4 29 = .ok (.ldc_w 267, 3) := by decide +kernel
theorem dJ6_bitCount_0f7a4_32 : decode cJ6_bitCount_0f7a4 32 = .ok (.iand, 1) := by decide +kernel
theorem dJ6_bitCount_0f7a4_33 : decode cJ6_bitCount_0f7a4 33 = .ok (.istore_n 0, 1) := by decide +kernel
theorem dJ6_bitCount_0f7a4_34 : decode cJ6_bitCount_0f7a4 34 = .ok (.iload_n 0, 1) := by decide +kernel
theorem dJ6_bitCount_0f7a4_35 : decode cJ6_bitCount_0f7a4 35 = .ok (.iload_n 0, 1) := by decide +kernel
theorem dJ6_bitCount_0f7a4_36 : decode cJ6_bitCount_0f7a4 36 = .ok (.bipush 8, 2) := by decide +kernel
theorem dJ6_bitCount_0f7a4_38 : decode cJ6_bitCount_0f7a4 38 = .ok (.iushr, 1) := by decide +kernel
theorem dJ6_bitCount_0f7a4_39 : decode cJ6_bitCount_0f7a4 39 = .ok (.iadd, 1) := by decide +kernel
theorem dJ6_bitCount_0f7a4_40 : decode cJ6_bitCount_0f7a4 40 = .ok (.istore_n 0, 1) := by decide +kernel
theorem dJ6_bitCount_0f7a4_41 : decode cJ6_bitCount_0f7a4 41 = .ok (.iload_n 0, 1) := by decide +kernel
theorem dJ6_bitCount_0f7a4_42 : decode cJ6_bitCount_0f7a4 42 = .ok (.iload_n 0, 1) := by decide +kernel
theorem dJ6_bitCount_0f7a4_43 : decode cJ6_bitCount_0f7a4 43 = .ok (.bipush 16, 2) := by decide +kernel
theorem dJ6_bitCount_0f7a4_45 : decode cJ6_bitCount_0f7a4 45 = .ok (.iushr, 1) := by decide +kernel
theorem dJ6_bitCount_0f7a4_46 : decode cJ6_bitCount_0f7a4 46 = .ok (.iadd, 1) := by decide +kernel
theorem dJ6_bitCount_0f7a4_47 : decode cJ6_bitCount_0f7a4 47 = .ok (.istore_n 0, 1) := by decide +kernel
theorem dJ6_bitCount_0f7a4_48 : decode cJ6_bitCount_0f7a4 48 = .ok (.iload_n 0, 1) := by decide +kernel
theorem dJ6_bitCount_0f7a4_49 : decode cJ6_bitCount_0f7a4 49 = .ok (.bipush 63, 2) := by decide +kernel
theorem dJ6_bitCount_0f7a4_51 : decode cJ6_bitCount_0f7a4 51 = .ok (.iand, 1) := by decide +kernel
theorem dJ6_bitCount_0f7a4_52 : decode cJ6_bitCount_0f7a4 52 = .ok (.ireturn, 1) := by decide +kernel
theorem dJ9_max_7cf53_0 : decode cJ9_max_7cf53 0 = .ok (.iload_n 0, 1) := by decide +kernel
theorem dJ9_max_7cf53_1 : decode cJ9_max_7cf53 1 = .ok (.iload_n 1, 1) := by decide +kernel
theorem dJ9_max_7cf53_2 : decode cJ9_max_7cf53 2 = .ok (.if_icmp .lt 7, 3) := by decide +kernel
theorem dJ9_max_7cf53_5 : decode cJ9_max_7cf53 5 = .ok (.iload_n 0, 1) := by decide +kernel
theorem dJ9_max_7cf53_6 : decode cJ9_max_7cf53 6 = .ok (.goto 4, 3) := by decide +kernel
theorem dJ9_max_7cf53_9 : decode cJ9_max_7cf53 9 = .ok (.iload_n 1, 1) := by decide +kernel
theorem dJ9_max_7cf53_10 : decode cJ9_max_7cf53 10 = .ok (.ireturn, 1) := by decide +kernel
end
section
theorem dX4_init_0 : decode cX4_init 0 = .ok (.aload_n 0, 1) := by decide +kernel
theorem dX4_init_1 : decode cX4_init 1 = .ok (.invokespecial 1, 3) := by decide +kernel
theorem dX4_init_4 : decode cX4_init 4 = .ok (.aload_n 0, 1) := by decide +kernel
theorem dX4_init_5 : decode cX4_init 5 = .ok (.sipush 813, 3) := by decide +kernel
theorem dX4_init_8 : decode cX4_init 8 = .ok (.newarray .int, 2) := by decide +kernel
theorem dX4_init_10 : decode cX4_init 10 = .ok (.putfield 7, 3) := by decide +kernel
theorem dX4_init_13 : decode cX4_init 13 = .ok (.aload_n 0, 1) := by decide +kernel
theorem dX4_init_14 : decode cX4_init 14 = .ok (.sipush 3252, 3) := by decide +kernel
theorem dX4_init_17 : decode cX4_init 17 = .ok (.newarray .int, 2) := by decide +kernel
theorem dX4_init_19 : decode cX4_init 19 = .ok (.putfield 13, 3) := by decide +kernel
theorem dX4_init_22 : decode cX4_init 22 = .ok (.aload_n 0, 1) := by decide +kernel
theorem dX4_init_23 : decode cX4_init 23 = .ok (.sipush 813, 3) := by decide +kernel
theorem dX4_init_26 : decode cX4_init 26 = .ok (.newarray .int, 2) := by decide +kernel
theorem dX4_init_28 : decode cX4_init 28 = .ok (.putfield 16, 3) := by decide +kernel
theorem dX4_init_31 : decode cX4_init 31 = .ok (.aload_n 0, 1) := by decide +kernel
theorem dX4_init_32 : decode cX4_init 32 = .ok (.sipush 813, 3) := by decide +kernel
theorem dX4_init_35 : decode cX4_init 35 = .ok (.newarray .int, 2) := by decide +kernel
theorem dX4_init_37 : decode cX4_init 37 = .ok (.putfield 19, 3) := by decide +kernel
theorem dX4_init_40 : decode cX4_init 40 = .ok (.aload_n 0, 1) := by decide +kernel
theorem dX4_init_41 : decode cX4_init 41 = .ok (.bipush 60, 2) := by decide +kernel
theorem dX4_init_43 : decode cX4_init 43 = .ok (.newarray .char, 2) := by decide +kernel
theorem dX4_init_45 : decode cX4_init 45 = .ok (.putfield 22, 3) := by decide +kernel
theorem dX4_init_48 : decode cX4_init 48 = .ok (.aload_n 0, 1) := by decide +kernel
theorem dX4_init_49 : decode cX4_init 49 = .ok (.iconst 3, 1) := by decide +kernel
theorem dX4_init_50 : decode cX4_init 50 = .ok (.newarray .int, 2) := by decide +kernel
theorem dX4_init_52 : decode cX4_init 52 = .ok (.putfield 26, 3) := by decide +kernel
theorem dX4_init_55 : decode cX4_init 55 = .ok (.aload_n 0, 1) := by decide +kernel
theorem dX4_init_56 : decode cX4_init 56 = .ok (.getfield 7, 3) := by decide +kernel
theorem dX4_init_59 : decode cX4_init 59 = .ok (.iconst 2, 1) := by decide +kernel
theorem dX4_init_60 : decode cX4_init 60 = .ok (.bipush 10, 2) := by decide +kernel
theorem dX4_init_62 : decode cX4_init 62 = .ok (.iastore, 1) := by decide +kernel
theorem dX4_init_63 : decode cX4_init 63 = .ok (.return_, 1) := by decide +kernel
theorem dX4_in_0 : decode cX4_in 0 = .ok (.iload_n 0, 1) := by decide +kernel
theorem dX4_in_1 : decode cX4_in 1 = .ok (.iload_n 1, 1) := by decide +kernel
theorem dX4_in_2 : decode cX4_in 2 = .ok (.if_icmp .lt 12, 3) := by decide +kernel
theorem dX4_in_5 : decode cX4_in 5 = .ok (.iload_n 0, 1) := by decide +kernel
theorem dX4_in_6 : decode cX4_in 6 = .ok (.iload_n 2, 1) := by decide +kernel
theorem dX4_in_7 : decode cX4_in 7 = .ok (.if_icmp .gt 7, 3) := by decide +kernel
theorem dX4_in_10 : decode cX4_in 10 = .ok (.iconst 1, 1) := by decide +kernel
theorem dX4_in_11 : decode cX4_in 11 = .ok (.goto 4, 3) := by decide +kernel
theorem dX4_in_14 : decode cX4_in 14 = .ok (.iconst 0, 1) := by decide +kernel
theorem dX4_in_15 : decode cX4_in 15 = .ok (.ireturn, 1) := by decide +kernel
theorem dX4_vi_0 : decode cX4_vi 0 = .ok (.aload_n 0, 1) := by decide +kernel
theorem dX4_vi_1 : decode cX4_vi 1 = .ok (.getfield 7, 3) := by decide +kernel
theorem dX4_vi_4 : decode cX4_vi 4 = .ok (.iconst 5, 1) := by decide +kernel
theorem dX4_vi_5 : decode cX4_vi 5 = .ok (.iconst 4, 1) := by decide +kernel
theorem dX4_vi_6 : decode cX4_vi 6 = .ok (.iload_n 1, 1) := by decide +kernel
theorem dX4_vi_7 : decode cX4_vi 7 = .ok (.imul, 1) := by decide +kernel
theorem dX4_vi_8 : decode cX4_vi 8 = .ok (.iadd, 1) := by decide +kernel
theorem dX4_vi_9 : decode cX4_vi 9 = .ok (.iload_n 2, 1) := by decide +kernel
theorem dX4_vi_10 : decode cX4_vi 10 = .ok (.iadd, 1) := by decide +kernel
theorem dX4_vi_11 : decode cX4_vi 11 = .ok (.iaload, 1) := by decide +kernel
theorem dX4_vi_12 : decode cX4_vi 12 = .ok (.ireturn, 1) := by decide +kernel
theorem dX4_place_0 : decode cX4_place 0 = .ok (.sipush 225, 3) := by decide +kernel
theorem dX4_place_3 : decode cX4_place 3 = .ok (.bipush 84, 2) := by decide +kernel
theorem dX4_place_5 : decode cX4_place 5 = .ok (.iload_n 0, 1) := by decide +kernel
theorem dX4_place_6 : decode cX4_place 6 = .ok (.imul, 1) := by decide +kernel
theorem dX4_place_7 : decode cX4_place 7 = .ok (.iadd, 1) := by decide +kernel
theorem dX4_place_8 : decode cX4_place 8 = .ok (.bipush 7, 2) := by decide +kernel
theorem dX4_place_10 : decode cX4_place 10 = .ok (.iload_n 1, 1) := by decide +kernel
theorem dX4_place_11 : decode cX4_place 11 = .ok (.imul, 1) := by decide +kernel
theorem dX4_place_12 : decode cX4_place 12 = .ok (.iadd, 1) := by decide +kernel
theorem dX4_place_13 : decode cX4_place 13 = .ok (.ireturn, 1) := by decide +kernel
theorem dX4_en_0 : decode cX4_en 0 = .ok (.aload_n 0, 1) := by decide +kernel
theorem dX4_en_1 : decode cX4_en 1 = .ok (.getfield 7, 3) := by decide +kernel
theorem dX4_en_4 : decode cX4_en 4 = .ok (.iload_n 1, 1) := by decide +kernel
theorem dX4_en_5 : decode cX4_en 5 = .ok (.iload_n 2, 1) := by decide +kernel
theorem dX4_en_6 : decode cX4_en 6 = .ok (.invokestatic 29, 3) := by decide +kernel
theorem dX4_en_9 : decode cX4_en 9 = .ok (.iload_n 3, 1) := by decide +kernel
theorem dX4_en_10 : decode cX4_en 10 = .ok (.iadd, 1) := by decide +kernel
theorem dX4_en_11 : decode cX4_en 11 = .ok (.iaload, 1) := by decide +kernel
theorem dX4_en_12 : decode cX4_en 12 = .ok (.ireturn, 1) := by decide +kernel
theorem dX4_isVillager_0 : decode cX4_isVillager 0 = .ok (.iload_n 1, 1) := by decide +kernel
theorem dX4_isVillager_1 : decode cX4_isVillager 1 = .ok (.iconst 0, 1) := by decide +kernel
theorem dX4_isVillager_2 : decode cX4_isVillager 2 = .ok (.aload_n 0, 1) := by decide +kernel
theorem dX4_isVillager_3 : decode cX4_isVillager 3 = .ok (.getfield 7, 3) := by decide +kernel
theorem dX4_isVillager_6 : decode cX4_isVillager 6 = .ok (.iconst 0, 1) := by decide +kernel
theorem dX4_isVillager_7 : decode cX4_isVillager 7 = .ok (.iaload, 1) := by decide +kernel
theorem dX4_isVillager_8 : decode cX4_isVillager 8 = .ok (.iconst 1, 1) := by decide +kernel
theorem dX4_isVillager_9 : decode cX4_isVillager 9 = .ok (.isub, 1) := by decide +kernel
theorem dX4_isVillager_10 : decode cX4_isVillager 10 = .ok (.invokestatic 33, 3) := by decide +kernel
theorem dX4_isVillager_13 : decode cX4_isVillager 13 = .ok (.ireturn, 1) := by decide +kernel
theorem dX4_isTopic_0 : decode cX4_isTopic 0 = .ok (.iload_n 0, 1) := by decide +kernel
theorem dX4_isTopic_1 : decode cX4_isTopic 1 = .ok (.iconst 0, 1) := by decide +kernel
theorem dX4_isTopic_2 : decode cX4_isTopic 2 = .ok (.bipush 11, 2) := by decide +kernel
theorem dX4_isTopic_4 : decode cX4_isTopic 4 = .ok (.invokestatic 33, 3) := by decide +kernel
theorem dX4_isTopic_7 : decode cX4_isTopic 7 = .ok (.ireturn, 1) := by decide +kernel
theorem dX4_isAwake_0 : decode cX4_isAwake 0 = .ok (.aload_n 0, 1) := by decide +kernel
theorem dX4_isAwake_1 : decode cX4_isAwake 1 = .ok (.iload_n 1, 1) := by decide +kernel
theorem dX4_isAwake_2 : decode cX4_isAwake 2 = .ok (.iconst 0, 1) := by decide +kernel
theorem dX4_isAwake_3 : decode cX4_isAwake 3 = .ok (.invokevirtual 37, 3) := by decide +kernel
theorem dX4_isAwake_6 : decode cX4_isAwake 6 = .ok (.ifCond .ne 7, 3) := by decide +kernel
theorem dX4_isAwake_9 : decode cX4_isAwake 9 = .ok (.iconst 1, 1) := by decide +kernel
theorem dX4_isAwake_10 : decode cX4_isAwake 10 = .ok (.goto 4, 3) := by decide +kernel
theorem dX4_isAwake_13 : decode cX4_isAwake 13 = .ok (.iconst 0, 1) := by decide +kernel
theorem dX4_isAwake_14 : decode cX4_isAwake 14 = .ok (.ireturn, 1) := by decide +kernel
theorem dX4_isGone_0 : decode cX4_isGone 0 = .ok (.aload_n 0, 1) := by decide +kernel
theorem dX4_isGone_1 : decode cX4_isGone 1 = .ok (.iload_n 1, 1) := by decide +kernel
theorem dX4_isGone_2 : decode cX4_isGone 2 = .ok (.iconst 0, 1) := by decide +kernel
theorem dX4_isGone_3 : decode cX4_isGone 3 = .ok (.invokevirtual 37, 3) := by decide +kernel
theorem dX4_isGone_6 : decode cX4_isGone 6 = .ok (.iconst 2, 1) := by decide +kernel
theorem dX4_isGone_7 : decode cX4_isGone 7 = .ok (.if_icmp .ne 7, 3) := by decide +kernel
theorem dX4_isGone_10 : decode cX4_isGone 10 = .ok (.iconst 1, 1) := by decide +kernel
theorem dX4_isGone_11 : decode cX4_isGone 11 = .ok (.goto 4, 3) := by decide +kernel
theorem dX4_isGone_14 : decode cX4_isGone 14 = .ok (.iconst 0, 1) := by decide +kernel
theorem dX4_isGone_15 : decode cX4_isGone 15 = .ok (.ireturn, 1) := by decide +kernel
theorem dX4_many_0 : decode cX4_many 0 = .ok (.iconst 0, 1) := by decide +kernel
theorem dX4_many_1 : decode cX4_many 1 = .ok (.istore_n 2, 1) := by decide +kernel
theorem dX4_many_2 : decode cX4_many 2 = .ok (.iconst 0, 1) := by decide +kernel
theorem dX4_many_3 : decode cX4_many 3 = .ok (.istore_n 3, 1) := by decide +kernel
theorem dX4_many_4 : decode cX4_many 4 = .ok (.iload_n 3, 1) := by decide +kernel
theorem dX4_many_5 : decode cX4_many 5 = .ok (.aload_n 0, 1) := by decide +kernel
theorem dX4_many_6 : decode cX4_many 6 = .ok (.getfield 7, 3) := by decide +kernel
theorem dX4_many_9 : decode cX4_many 9 = .ok (.iconst 0, 1) := by decide +kernel
theorem dX4_many_10 : decode cX4_many 10 = .ok (.iaload, 1) := by decide +kernel
theorem dX4_many_11 : decode cX4_many 11 = .ok (.if_icmp .ge 27, 3) := by decide +kernel
theorem dX4_many_14 : decode cX4_many 14 = .ok (.iload_n 2, 1) := by decide +kernel
theorem dX4_many_15 : decode cX4_many 15 = .ok (.aload_n 0, 1) := by decide +kernel
theorem dX4_many_16 : decode cX4_many 16 = .ok (.iload_n 3, 1) := by decide +kernel
theorem dX4_many_17 : decode cX4_many 17 = .ok (.iconst 0, 1) := by decide +kernel
theorem dX4_many_18 : decode cX4_many 18 = .ok (.invokevirtual 37, 3) := by decide +kernel
theorem dX4_many_21 : decode cX4_many 21 = .ok (.iload_n 1, 1) := by decide +kernel
theorem dX4_many_22 : decode cX4_many 22 = .ok (.if_icmp .ne 7, 3) := by decide +kernel
theorem dX4_many_25 : decode cX4_many 25 = .ok (.iconst 1, 1) := by decide +kernel
theorem dX4_many_26 : decode cX4_many 26 = .ok (.goto 4, 3) := by decide +kernel
theorem dX4_many_29 : decode cX4_many 29 = .ok (.iconst 0, 1) := by decide +kernel
theorem dX4_many_30 : decode cX4_many 30 = .ok (.iadd, 1) := by decide +kernel
theorem dX4_many_31 : decode cX4_many 31 = .ok (.istore_n 2, 1) := by decide +kernel
theorem dX4_many_32 : decode cX4_many 32 = .ok (.iinc 3 1, 3) := by decide +kernel
theorem dX4_many_35 : decode cX4_many 35 = .ok (.goto (-31), 3) := by decide +kernel
theorem dX4_many_38 : decode cX4_many 38 = .ok (.iload_n 2, 1) := by decide +kernel
theorem dX4_many_39 : decode cX4_many 39 = .ok (.ireturn, 1) := by decide +kernel
theorem dX4_keeps_0 : decode cX4_keeps 0 = .ok (.iconst 0, 1) := by decide +kernel
theorem dX4_keeps_1 : decode cX4_keeps 1 = .ok (.istore_n 1, 1) := by decide +kernel
theorem dX4_keeps_2 : decode cX4_keeps 2 = .ok (.iload_n 1, 1) := by decide +kernel
theorem dX4_keeps_3 : decode cX4_keeps 3 = .ok (.sipush 813, 3) := by decide +kernel
theorem dX4_keeps_6 : decode cX4_keeps 6 = .ok (.if_icmp .ge 21, 3) := by decide +kernel
theorem dX4_keeps_9 : decode cX4_keeps 9 = .ok (.aload_n 0, 1) := by decide +kernel
theorem dX4_keeps_10 : decode cX4_keeps 10 = .ok (.getfield 16, 3) := by decide +kernel
theorem dX4_keeps_13 : decode cX4_keeps 13 = .ok (.iload_n 1, 1) := by decide +kernel
theorem dX4_keeps_14 : decode cX4_keeps 14 = .ok (.aload_n 0, 1) := by decide +kernel
theorem dX4_keeps_15 : decode cX4_keeps 15 = .ok (.getfield 7, 3) := by decide +kernel
theorem dX4_keeps_18 : decode cX4_keeps 18 = .ok (.iload_n 1, 1) := by decide +kernel
theorem dX4_keeps_19 : decode cX4_keeps 19 = .ok (.iaload, 1) := by decide +kernel
theorem dX4_keeps_20 : decode cX4_keeps 20 = .ok (.iastore, 1) := by decide +kernel
theorem dX4_keeps_21 : decode cX4_keeps 21 = .ok (.iinc 1 1, 3) := by decide +kernel
theorem dX4_keeps_24 : decode cX4_keeps 24 = .ok (.goto (-22), 3) := by decide +kernel
theorem dX4_keeps_27 : decode cX4_keeps 27 = .ok (.return_, 1) := by decide +kernel
theorem dX4_acted_0 : decode cX4_acted 0 = .ok (.iload_n 1, 1) := by decide +kernel
theorem dX4_acted_1 : decode cX4_acted 1 = .ok (.ldc 40, 2) := by decide +kernel
theorem dX4_acted_3 : decode cX4_acted 3 = .ok (.if_icmp .le 98, 3) := by decide +kernel
theorem dX4_acted_6 : decode cX4_acted 6 = .ok (.aload_n 0, 1) := by decide +kernel
theorem dX4_acted_7 : decode cX4_acted 7 = .ok (.getfield 41, 3) := by decide +kernel
theorem dX4_acted_10 : decode cX4_acted 10 = .ok (.iconst 4, 1) := by decide +kernel
theorem dX4_acted_11 : decode cX4_acted 11 = .ok (.if_icmp .ne 44, 3) := by decide +kernel
theorem dX4_acted_14 : decode cX4_acted 14 = .ok (.iconst 0, 1) := by decide +kernel
theorem dX4_acted_15 : decode cX4_acted 15 = .ok (.istore_n 2, 1) := by decide +kernel
theorem dX4_acted_16 : decode cX4_acted 16 = .ok (.iload_n 2, 1) := by decide +kernel
theorem dX4_acted_17 : decode cX4_acted 17 = .ok (.sipush 2439, 3) := by decide +kernel
theorem dX4_acted_20 : decode cX4_acted 20 = .ok (.if_icmp .ge 25, 3) := by decide +kernel
theorem dX4_acted_23 : decode cX4_acted 23 = .ok (.aload_n 0, 1) := by decide +kernel
theorem dX4_acted_24 : decode cX4_acted 24 = .ok (.getfield 13, 3) := by decide +kernel
theorem dX4_acted_27 : decode cX4_acted 27 = .ok (.iload_n 2, 1) := by decide +kernel
theorem dX4_acted_28 : decode cX4_acted 28 = .ok (.aload_n 0, 1) := by decide +kernel
theorem dX4_acted_29 : decode cX4_acted 29 = .ok (.getfield 13, 3) := by decide +kernel
theorem dX4_acted_32 : decode cX4_acted 32 = .ok (.iload_n 2, 1) := by decide +kernel
theorem dX4_acted_33 : decode cX4_acted 33 = .ok (.sipush 813, 3) := by decide +kernel
theorem dX4_acted_36 : decode cX4_acted 36 = .ok (.iadd, 1) := by decide +kernel
theorem dX4_acted_37 : decode cX4_acted 37 = .ok (.iaload, 1) := by decide +kernel
theorem dX4_acted_38 : decode cX4_acted 38 = .ok (.iastore, 1) := by decide +kernel
theorem dX4_acted_39 : decode cX4_acted 39 = .ok (.iinc 2 1, 3) := by decide +kernel
theorem dX4_acted_42 : decode cX4_acted 42 = .ok (.goto (-26), 3) := by decide +kernel
theorem dX4_acted_45 : decode cX4_acted 45 = .ok (.aload_n 0, 1) := by decide +kernel
theorem dX4_acted_46 : decode cX4_acted 46 = .ok (.dup, 1) := by decide +kernel
theorem dX4_acted_47 : decode cX4_acted 47 = .ok (.getfield 41, 3) := by decide +kernel
theorem dX4_acted_50 : decode cX4_acted 50 = .ok (.iconst 1, 1) := by decide +kernel
theorem dX4_acted_51 : decode cX4_acted 51 = .ok (.isub, 1) := by decide +kernel
theorem dX4_acted_52 : decode cX4_acted 52 = .ok (.putfield 41, 3) := by decide +kernel
theorem dX4_acted_55 : decode cX4_acted 55 = .ok (.iconst 0, 1) := by decide +kernel
theorem dX4_acted_56 : decode cX4_acted 56 = .ok (.istore_n 2, 1) := by decide +kernel
theorem dX4_acted_57 : decode cX4_acted 57 = .ok (.iload_n 2, 1) := by decide +kernel
theorem dX4_acted_58 : decode cX4_acted 58 = .ok (.sipush 813, 3) := by decide +kernel
theorem dX4_acted_61 : decode cX4_acted 61 = .ok (.if_icmp .ge 30, 3) := by decide +kernel
theorem dX4_acted_64 : decode cX4_acted 64 = .ok (.aload_n 0, 1) := by decide +kernel
theorem dX4_acted_65 : decode cX4_acted 65 = .ok (.getfield 13, 3) := by decide +kernel
theorem dX4_acted_68 : decode cX4_acted 68 = .ok (.sipush 813, 3) := by decide +kernel
theorem dX4_acted_71 : decode cX4_acted 71 = .ok (.aload_n 0, 1) := by decide +kernel
theorem dX4_acted_72 : decode cX4_acted 72 = .ok (.getfield 41, 3) := by decide +kernel
theorem dX4_acted_75 : decode cX4_acted 75 = .ok (.imul, 1) := by decide +kernel
theorem dX4_acted_76 : decode cX4_acted 76 = .ok (.iload_n 2, 1) := by decide +kernel
theorem dX4_acted_77 : decode cX4_acted 77 = .ok (.iadd, 1) := by decide +kernel
theorem dX4_acted_78 : decode cX4_acted 78 = .ok (.aload_n 0, 1) := by decide +kernel
theorem dX4_acted_79 : decode cX4_acted 79 = .ok (.getfield 16, 3) := by decide +kernel
theorem dX4_acted_82 : decode cX4_acted 82 = .ok (.iload_n 2, 1) := by decide +kernel
theorem dX4_acted_83 : decode cX4_acted 83 = .ok (.iaload, 1) := by decide +kernel
theorem dX4_acted_84 : decode cX4_acted 84 = .ok (.iastore, 1) := by decide +kernel
theorem dX4_acted_85 : decode cX4_acted 85 = .ok (.iinc 2 1, 3) := by decide +kernel
theorem dX4_acted_88 : decode cX4_acted 88 = .ok (.goto (-31), 3) := by decide +kernel
theorem dX4_acted_91 : decode cX4_acted 91 = .ok (.aload_n 0, 1) := by decide +kernel
theorem dX4_acted_92 : decode cX4_acted 92 = .ok (.dup, 1) := by decide +kernel
theorem dX4_acted_93 : decode cX4_acted 93 = .ok (.getfield 41, 3) := by decide +kernel
theorem dX4_acted_96 : decode cX4_acted 96 = .ok (.iconst 1, 1) := by decide +kernel
theorem dX4_acted_97 : decode cX4_acted 97 = .ok (.iadd, 1) := by decide +kernel
theorem dX4_acted_98 : decode cX4_acted 98 = .ok (.putfield 41, 3) := by decide +kernel
theorem dX4_acted_101 : decode cX4_acted 101 = .ok (.iload_n 1, 1) := by decide +kernel
theorem dX4_acted_102 : decode cX4_acted 102 = .ok (.ireturn, 1) := by decide +kernel
theorem dX4_puts_0 : decode cX4_puts 0 = .ok (.iconst 0, 1) := by decide +kernel
theorem dX4_puts_1 : decode cX4_puts 1 = .ok (.istore_n 1, 1) := by decide +kernel
theorem dX4_puts_2 : decode cX4_puts 2 = .ok (.iload_n 1, 1) := by decide +kernel
theorem dX4_puts_3 : decode cX4_puts 3 = .ok (.sipush 813, 3) := by decide +kernel
theorem dX4_puts_6 : decode cX4_puts 6 = .ok (.if_icmp .ge 21, 3) := by decide +kernel
theorem dX4_puts_9 : decode cX4_puts 9 = .ok (.aload_n 0, 1) := by decide +kernel
theorem dX4_puts_10 : decode cX4_puts 10 = .ok (.getfield 19, 3) := by decide +kernel
theorem dX4_puts_13 : decode cX4_puts 13 = .ok (.iload_n 1, 1) := by decide +kernel
theorem dX4_puts_14 : decode cX4_puts 14 = .ok (.aload_n 0, 1) := by decide +kernel
theorem dX4_puts_15 : decode cX4_puts 15 = .ok (.getfield 7, 3) := by decide +kernel
theorem dX4_puts_18 : decode cX4_puts 18 = .ok (.iload_n 1, 1) := by decide +kernel
theorem dX4_puts_19 : decode cX4_puts 19 = .ok (.iaload, 1) := by decide +kernel
theorem dX4_puts_20 : decode cX4_puts 20 = .ok (.iastore, 1) := by decide +kernel
theorem dX4_puts_21 : decode cX4_puts 21 = .ok (.iinc 1 1, 3) := by decide +kernel
theorem dX4_puts_24 : decode cX4_puts 24 = .ok (.goto (-22), 3) := by decide +kernel
theorem dX4_puts_27 : decode cX4_puts 27 = .ok (.return_, 1) := by decide +kernel
theorem dX4_restores_0 : decode cX4_restores 0 = .ok (.iconst 0, 1) := by decide +kernel
theorem dX4_restores_1 : decode cX4_restores 1 = .ok (.istore_n 1, 1) := by decide +kernel
theorem dX4_restores_2 : decode cX4_restores 2 = .ok (.iload_n 1, 1) := by decide +kernel
theorem dX4_restores_3 : decode cX4_restores 3 = .ok (.sipush 813, 3) := by decide +kernel
theorem dX4_restores_6 : decode cX4_restores 6 = .ok (.if_icmp .ge 21, 3) := by decide +kernel
theorem dX4_restores_9 : decode cX4_restores 9 = .ok (.aload_n 0, 1) := by decide +kernel
theorem dX4_restores_10 : decode cX4_restores 10 = .ok (.getfield 7, 3) := by decide +kernel
theorem dX4_restores_13 : decode cX4_restores 13 = .ok (.iload_n 1, 1) := by decide +kernel
theorem dX4_restores_14 : decode cX4_restores 14 = .ok (.aload_n 0, 1) := by decide +kernel
theorem dX4_restores_15 : decode cX4_restores 15 = .ok (.getfield 19, 3) := by decide +kernel
theorem dX4_restores_18 : decode cX4_restores 18 = .ok (.iload_n 1, 1) := by decide +kernel
theorem dX4_restores_19 : decode cX4_restores 19 = .ok (.iaload, 1) := by decide +kernel
theorem dX4_restores_20 : decode cX4_restores 20 = .ok (.iastore, 1) := by decide +kernel
theorem dX4_restores_21 : decode cX4_restores 21 = .ok (.iinc 1 1, 3) := by decide +kernel
theorem dX4_restores_24 : decode cX4_restores 24 = .ok (.goto (-22), 3) := by decide +kernel
theorem dX4_restores_27 : decode cX4_restores 27 = .ok (.return_, 1) := by decide +kernel
theorem dX4_villager_0 : decode cX4_villager 0 = .ok (.aload_n 0, 1) := by decide +kernel
theorem dX4_villager_1 : decode cX4_villager 1 = .ok (.getfield 7, 3) := by decide +kernel
theorem dX4_villager_4 : decode cX4_villager 4 = .ok (.iconst 0, 1) := by decide +kernel
theorem dX4_villager_5 : decode cX4_villager 5 = .ok (.iaload, 1) := by decide +kernel
theorem dX4_villager_6 : decode cX4_villager 6 = .ok (.bipush 7, 2) := by decide +kernel
theorem dX4_villager_8 : decode cX4_villager 8 = .ok (.if_icmp .ne 6, 3) := by decide +kernel
theorem dX4_villager_11 : decode cX4_villager 11 = .ok (.ldc 45, 2) := by decide +kernel
theorem dX4_villager_13 : decode cX4_villager 13 = .ok (.ireturn, 1) := by decide +kernel
theorem dX4_villager_14 : decode cX4_villager 14 = .ok (.aload_n 0, 1) := by decide +kernel
theorem dX4_villager_15 : decode cX4_villager 15 = .ok (.invokevirtual 46, 3) := by decide +kernel
theorem dX4_villager_18 : decode cX4_villager 18 = .ok (.aload_n 0, 1) := by decide +kernel
theorem dX4_villager_19 : decode cX4_villager 19 = .ok (.getfield 7, 3) := by decide +kernel
theorem dX4_villager_22 : decode cX4_villager 22 = .ok (.iconst 0, 1) := by decide +kernel
theorem dX4_villager_23 : decode cX4_villager 23 = .ok (.iaload, 1) := by decide +kernel
theorem dX4_villager_24 : decode cX4_villager 24 = .ok (.istore_n 1, 1) := by decide +kernel
theorem dX4_villager_25 : decode cX4_villager 25 = .ok (.iconst 0, 1) := by decide +kernel
theorem dX4_villager_26 : decode cX4_villager 26 = .ok (.istore_n 2, 1) := by decide +kernel
theorem dX4_villager_27 : decode cX4_villager 27 = .ok (.iload_n 2, 1) := by decide +kernel
theorem dX4_villager_28 : decode cX4_villager 28 = .ok (.iconst 4, 1) := by decide +kernel
theorem dX4_villager_29 : decode cX4_villager 29 = .ok (.if_icmp .ge 22, 3) := by decide +kernel
theorem dX4_villager_32 : decode cX4_villager 32 = .ok (.aload_n 0, 1) := by decide +kernel
theorem dX4_villager_33 : decode cX4_villager 33 = .ok (.getfield 7, 3) := by decide +kernel
theorem dX4_villager_36 : decode cX4_villager 36 = .ok (.iconst 5, 1) := by decide +kernel
theorem dX4_villager_37 : decode cX4_villager 37 = .ok (.iconst 4, 1) := by decide +kernel
theorem dX4_villager_38 : decode cX4_villager 38 = .ok (.iload_n 1, 1) := by decide +kernel
theorem dX4_villager_39 : decode cX4_villager 39 = .ok (.imul, 1) := by decide +kernel
theorem dX4_villager_40 : decode cX4_villager 40 = .ok (.iadd, 1) := by decide +kernel
theorem dX4_villager_41 : decode cX4_villager 41 = .ok (.iload_n 2, 1) := by decide +kernel
theorem dX4_villager_42 : decode cX4_villager 42 = .ok (.iadd, 1) := by decide +kernel
theorem dX4_villager_43 : decode cX4_villager 43 = .ok (.iconst 0, 1) := by decide +kernel
theorem dX4_villager_44 : decode cX4_villager 44 = .ok (.iastore, 1) := by decide +kernel
theorem dX4_villager_45 : decode cX4_villager 45 = .ok (.iinc 2 1, 3) := by decide +kernel
theorem dX4_villager_48 : decode cX4_villager 48 = .ok (.goto (-21), 3) := by decide +kernel
theorem dX4_villager_51 : decode cX4_villager 51 = .ok (.aload_n 0, 1) := by decide +kernel
theorem dX4_villager_52 : decode cX4_villager 52 = .ok (.getfield 7, 3) := by decide +kernel
theorem dX4_villager_55 : decode cX4_villager 55 = .ok (.iconst 0, 1) := by decide +kernel
theorem dX4_villager_56 : decode cX4_villager 56 = .ok (.dup2, 1) := by decide +kernel
theorem dX4_villager_57 : decode cX4_villager 57 = .ok (.iaload, 1) := by decide +kernel
theorem dX4_villager_58 : decode cX4_villager 58 = .ok (.iconst 1, 1) := by decide +kernel
theorem dX4_villager_59 : decode cX4_villager 59 = .ok (.iadd, 1) := by decide +kernel
theorem dX4_villager_60 : decode cX4_villager 60 = .ok (.iastore, 1) := by decide +kernel
theorem dX4_villager_61 : decode cX4_villager 61 = .ok (.aload_n 0, 1) := by decide +kernel
theorem dX4_villager_62 : decode cX4_villager 62 = .ok (.iload_n 1, 1) := by decide +kernel
theorem dX4_villager_63 : decode cX4_villager 63 = .ok (.invokevirtual 49, 3) := by decide +kernel
theorem dX4_villager_66 : decode cX4_villager 66 = .ok (.ireturn, 1) := by decide +kernel
theorem dX4_sleeps_0 : decode cX4_sleeps 0 = .ok (.aload_n 0, 1) := by decide +kernel
theorem dX4_sleeps_1 : decode cX4_sleeps 1 = .ok (.iload_n 1, 1) := by decide +kernel
theorem dX4_sleeps_2 : decode cX4_sleeps 2 = .ok (.invokevirtual 53, 3) := by decide +kernel
theorem dX4_sleeps_5 : decode cX4_sleeps 5 = .ok (.ifCond .ne 6, 3) := by decide +kernel
theorem dX4_sleeps_8 : decode cX4_sleeps 8 = .ok (.ldc 40, 2) := by decide +kernel
theorem dX4_sleeps_10 : decode cX4_sleeps 10 = .ok (.ireturn, 1) := by decide +kernel
theorem dX4_sleeps_11 : decode cX4_sleeps 11 = .ok (.aload_n 0, 1) := by decide +kernel
theorem dX4_sleeps_12 : decode cX4_sleeps 12 = .ok (.iload_n 1, 1) := by decide +kernel
theorem dX4_sleeps_13 : decode cX4_sleeps 13 = .ok (.invokevirtual 57, 3) := by decide +kernel
theorem dX4_sleeps_16 : decode cX4_sleeps 16 = .ok (.ifCond .ne 6, 3) := by decide +kernel
theorem dX4_sleeps_19 : decode cX4_sleeps 19 = .ok (.ldc 60, 2) := by decide +kernel
theorem dX4_sleeps_21 : decode cX4_sleeps 21 = .ok (.ireturn, 1) := by decide +kernel
theorem dX4_sleeps_22 : decode cX4_sleeps 22 = .ok (.aload_n 0, 1) := by decide +kernel
theorem dX4_sleeps_23 : decode cX4_sleeps 23 = .ok (.getfield 7, 3) := by decide +kernel
theorem dX4_sleeps_26 : decode cX4_sleeps 26 = .ok (.iconst 5, 1) := by decide +kernel
theorem dX4_sleeps_27 : decode cX4_sleeps 27 = .ok (.iconst 4, 1) := by decide +kernel
theorem dX4_sleeps_28 : decode cX4_sleeps 28 = .ok (.iload_n 1, 1) := by decide +kernel
theorem dX4_sleeps_29 : decode cX4_sleeps 29 = .ok (.imul, 1) := by decide +kernel
theorem dX4_sleeps_30 : decode cX4_sleeps 30 = .ok (.iadd, 1) := by decide +kernel
theorem dX4_sleeps_31 : decode cX4_sleeps 31 = .ok (.iconst 0, 1) := by decide +kernel
theorem dX4_sleeps_32 : decode cX4_sleeps 32 = .ok (.iadd, 1) := by decide +kernel
theorem dX4_sleeps_33 : decode cX4_sleeps 33 = .ok (.iconst 1, 1) := by decide +kernel
theorem dX4_sleeps_34 : decode cX4_sleeps 34 = .ok (.iastore, 1) := by decide +kernel
theorem dX4_sleeps_35 : decode cX4_sleeps 35 = .ok (.aload_n 0, 1) := by decide +kernel
theorem dX4_sleeps_36 : decode cX4_sleeps 36 = .ok (.getfield 7, 3) := by decide +kernel
theorem dX4_sleeps_39 : decode cX4_sleeps 39 = .ok (.iconst 5, 1) := by decide +kernel
theorem dX4_sleeps_40 : decode cX4_sleeps 40 = .ok (.iconst 4, 1) := by decide +kernel
theorem dX4_sleeps_41 : decode cX4_sleeps 41 = .ok (.iload_n 1, 1) := by decide +kernel
theorem dX4_sleeps_42 : decode cX4_sleeps 42 = .ok (.imul, 1) := by decide +kernel
theorem dX4_sleeps_43 : decode cX4_sleeps 43 = .ok (.iadd, 1) := by decide +kernel
theorem dX4_sleeps_44 : decode cX4_sleeps 44 = .ok (.iconst 3, 1) := by decide +kernel
theorem dX4_sleeps_45 : decode cX4_sleeps 45 = .ok (.iadd, 1) := by decide +kernel
theorem dX4_sleeps_46 : decode cX4_sleeps 46 = .ok (.aload_n 0, 1) := by decide +kernel
theorem dX4_sleeps_47 : decode cX4_sleeps 47 = .ok (.getfield 7, 3) := by decide +kernel
theorem dX4_sleeps_50 : decode cX4_sleeps 50 = .ok (.iconst 1, 1) := by decide +kernel
theorem dX4_sleeps_51 : decode cX4_sleeps 51 = .ok (.iaload, 1) := by decide +kernel
theorem dX4_sleeps_52 : decode cX4_sleeps 52 = .ok (.iastore, 1) := by decide +kernel
theorem dX4_sleeps_53 : decode cX4_sleeps 53 = .ok (.aload_n 0, 1) := by decide +kernel
theorem dX4_sleeps_54 : decode cX4_sleeps 54 = .ok (.iconst 0, 1) := by decide +kernel
theorem dX4_sleeps_55 : decode cX4_sleeps 55 = .ok (.invokevirtual 61, 3) := by decide +kernel
theorem dX4_sleeps_58 : decode cX4_sleeps 58 = .ok (.ireturn, 1) := by decide +kernel
theorem dX4_sleep_0 : decode cX4_sleep 0 = .ok (.aload_n 0, 1) := by decide +kernel
theorem dX4_sleep_1 : decode cX4_sleep 1 = .ok (.invokevirtual 46, 3) := by decide +kernel
theorem dX4_sleep_4 : decode cX4_sleep 4 = .ok (.aload_n 0, 1) := by decide +kernel
theorem dX4_sleep_5 : decode cX4_sleep 5 = .ok (.aload_n 0, 1) := by decide +kernel
theorem dX4_sleep_6 : decode cX4_sleep 6 = .ok (.iload_n 1, 1) := by decide +kernel
theorem dX4_sleep_7 : decode cX4_sleep 7 = .ok (.invokevirtual 64, 3) := by decide +kernel
theorem dX4_sleep_10 : decode cX4_sleep 10 = .ok (.invokevirtual 49, 3) := by decide +kernel
theorem dX4_sleep_13 : decode cX4_sleep 13 = .ok (.ireturn, 1) := by decide +kernel
theorem dX4_wakes_0 : decode cX4_wakes 0 = .ok (.aload_n 0, 1) := by decide +kernel
theorem dX4_wakes_1 : decode cX4_wakes 1 = .ok (.iload_n 1, 1) := by decide +kernel
theorem dX4_wakes_2 : decode cX4_wakes 2 = .ok (.invokevirtual 53, 3) := by decide +kernel
theorem dX4_wakes_5 : decode cX4_wakes 5 = .ok (.ifCond .ne 6, 3) := by decide +kernel
theorem dX4_wakes_8 : decode cX4_wakes 8 = .ok (.ldc 40, 2) := by decide +kernel
theorem dX4_wakes_10 : decode cX4_wakes 10 = .ok (.ireturn, 1) := by decide +kernel
theorem dX4_wakes_11 : decode cX4_wakes 11 = .ok (.aload_n 0, 1) := by decide +kernel
theorem dX4_wakes_12 : decode cX4_wakes 12 = .ok (.iload_n 1, 1) := by decide +kernel
theorem dX4_wakes_13 : decode cX4_wakes 13 = .ok (.iconst 0, 1) := by decide +kernel
theorem dX4_wakes_14 : decode cX4_wakes 14 = .ok (.invokevirtual 37, 3) := by decide +kernel
theorem dX4_wakes_17 : decode cX4_wakes 17 = .ok (.iconst 1, 1) := by decide +kernel
theorem dX4_wakes_18 : decode cX4_wakes 18 = .ok (.if_icmp .eq 6, 3) := by decide +kernel
theorem dX4_wakes_21 : decode cX4_wakes 21 = .ok (.ldc 60, 2) := by decide +kernel
theorem dX4_wakes_23 : decode cX4_wakes 23 = .ok (.ireturn, 1) := by decide +kernel
theorem dX4_wakes_24 : decode cX4_wakes 24 = .ok (.aload_n 0, 1) := by decide +kernel
theorem dX4_wakes_25 : decode cX4_wakes 25 = .ok (.getfield 7, 3) := by decide +kernel
theorem dX4_wakes_28 : decode cX4_wakes 28 = .ok (.iconst 5, 1) := by decide +kernel
theorem dX4_wakes_29 : decode cX4_wakes 29 = .ok (.iconst 4, 1) := by decide +kernel
theorem dX4_wakes_30 : decode cX4_wakes 30 = .ok (.iload_n 1, 1) := by decide +kernel
theorem dX4_wakes_31 : decode cX4_wakes 31 = .ok (.imul, 1) := by decide +kernel
theorem dX4_wakes_32 : decode cX4_wakes 32 = .ok (.iadd, 1) := by decide +kernel
theorem dX4_wakes_33 : decode cX4_wakes 33 = .ok (.iconst 0, 1) := by decide +kernel
theorem dX4_wakes_34 : decode cX4_wakes 34 = .ok (.iadd, 1) := by decide +kernel
theorem dX4_wakes_35 : decode cX4_wakes 35 = .ok (.iconst 0, 1) := by decide +kernel
theorem dX4_wakes_36 : decode cX4_wakes 36 = .ok (.iastore, 1) := by decide +kernel
theorem dX4_wakes_37 : decode cX4_wakes 37 = .ok (.aload_n 0, 1) := by decide +kernel
theorem dX4_wakes_38 : decode cX4_wakes 38 = .ok (.getfield 7, 3) := by decide +kernel
theorem dX4_wakes_41 : decode cX4_wakes 41 = .ok (.iconst 1, 1) := by decide +kernel
theorem dX4_wakes_42 : decode cX4_wakes 42 = .ok (.iaload, 1) := by decide +kernel
theorem dX4_wakes_43 : decode cX4_wakes 43 = .ok (.aload_n 0, 1) := by decide +kernel
theorem dX4_wakes_44 : decode cX4_wakes 44 = .ok (.iload_n 1, 1) := by decide +kernel
theorem dX4_wakes_45 : decode cX4_wakes 45 = .ok (.iconst 3, 1) := by decide +kernel
theorem dX4_wakes_46 : decode cX4_wakes 46 = .ok (.invokevirtual 37, 3) := by decide +kernel
theorem dX4_wakes_49 : decode cX4_wakes 49 = .ok (.isub, 1) := by decide +kernel
theorem dX4_wakes_50 : decode cX4_wakes 50 = .ok (.ireturn, 1) := by decide +kernel
theorem dX4_wake_0 : decode cX4_wake 0 = .ok (.aload_n 0, 1) := by decide +kernel
theorem dX4_wake_1 : decode cX4_wake 1 = .ok (.invokevirtual 46, 3) := by decide +kernel
theorem dX4_wake_4 : decode cX4_wake 4 = .ok (.aload_n 0, 1) := by decide +kernel
theorem dX4_wake_5 : decode cX4_wake 5 = .ok (.aload_n 0, 1) := by decide +kernel
theorem dX4_wake_6 : decode cX4_wake 6 = .ok (.iload_n 1, 1) := by decide +kernel
theorem dX4_wake_7 : decode cX4_wake 7 = .ok (.invokevirtual 67, 3) := by decide +kernel
theorem dX4_wake_10 : decode cX4_wake 10 = .ok (.invokevirtual 49, 3) := by decide +kernel
theorem dX4_wake_13 : decode cX4_wake 13 = .ok (.ireturn, 1) := by decide +kernel
theorem dX4_leave_0 : decode cX4_leave 0 = .ok (.aload_n 0, 1) := by decide +kernel
theorem dX4_leave_1 : decode cX4_leave 1 = .ok (.iload_n 1, 1) := by decide +kernel
theorem dX4_leave_2 : decode cX4_leave 2 = .ok (.invokevirtual 53, 3) := by decide +kernel
theorem dX4_leave_5 : decode cX4_leave 5 = .ok (.ifCond .ne 6, 3) := by decide +kernel
theorem dX4_leave_8 : decode cX4_leave 8 = .ok (.ldc 40, 2) := by decide +kernel
theorem dX4_leave_10 : decode cX4_leave 10 = .ok (.ireturn, 1) := by decide +kernel
theorem dX4_leave_11 : decode cX4_leave 11 = .ok (.aload_n 0, 1) := by decide +kernel
theorem dX4_leave_12 : decode cX4_leave 12 = .ok (.iload_n 1, 1) := by decide +kernel
theorem dX4_leave_13 : decode cX4_leave 13 = .ok (.invokevirtual 70, 3) := by decide +kernel
theorem dX4_leave_16 : decode cX4_leave 16 = .ok (.ifCond .eq 6, 3) := by decide +kernel
theorem dX4_leave_19 : decode cX4_leave 19 = .ok (.ldc 60, 2) := by decide +kernel
theorem dX4_leave_21 : decode cX4_leave 21 = .ok (.ireturn, 1) := by decide +kernel
theorem dX4_leave_22 : decode cX4_leave 22 = .ok (.aload_n 0, 1) := by decide +kernel
theorem dX4_leave_23 : decode cX4_leave 23 = .ok (.invokevirtual 46, 3) := by decide +kernel
theorem dX4_leave_26 : decode cX4_leave 26 = .ok (.aload_n 0, 1) := by decide +kernel
theorem dX4_leave_27 : decode cX4_leave 27 = .ok (.getfield 7, 3) := by decide +kernel
theorem dX4_leave_30 : decode cX4_leave 30 = .ok (.iconst 5, 1) := by decide +kernel
theorem dX4_leave_31 : decode cX4_leave 31 = .ok (.iconst 4, 1) := by decide +kernel
theorem dX4_leave_32 : decode cX4_leave 32 = .ok (.iload_n 1, 1) := by decide +kernel
theorem dX4_leave_33 : decode cX4_leave 33 = .ok (.imul, 1) := by decide +kernel
theorem dX4_leave_34 : decode cX4_leave 34 = .ok (.iadd, 1) := by decide +kernel
theorem dX4_leave_35 : decode cX4_leave 35 = .ok (.iconst 0, 1) := by decide +kernel
theorem dX4_leave_36 : decode cX4_leave 36 = .ok (.iadd, 1) := by decide +kernel
theorem dX4_leave_37 : decode cX4_leave 37 = .ok (.iconst 2, 1) := by decide +kernel
theorem dX4_leave_38 : decode cX4_leave 38 = .ok (.iastore, 1) := by decide +kernel
theorem dX4_leave_39 : decode cX4_leave 39 = .ok (.iconst 0, 1) := by decide +kernel
theorem dX4_leave_40 : decode cX4_leave 40 = .ok (.istore_n 2, 1) := by decide +kernel
theorem dX4_leave_41 : decode cX4_leave 41 = .ok (.iload_n 2, 1) := by decide +kernel
theorem dX4_leave_42 : decode cX4_leave 42 = .ok (.bipush 12, 2) := by decide +kernel
theorem dX4_leave_44 : decode cX4_leave 44 = .ok (.if_icmp .ge 20, 3) := by decide +kernel
theorem dX4_leave_47 : decode cX4_leave 47 = .ok (.aload_n 0, 1) := by decide +kernel
theorem dX4_leave_48 : decode cX4_leave 48 = .ok (.getfield 7, 3) := by decide +kernel
theorem dX4_leave_51 : decode cX4_leave 51 = .ok (.iload_n 1, 1) := by decide +kernel
theorem dX4_leave_52 : decode cX4_leave 52 = .ok (.iload_n 2, 1) := by decide +kernel
theorem dX4_leave_53 : decode cX4_leave 53 = .ok (.invokestatic 29, 3) := by decide +kernel
theorem dX4_leave_56 : decode cX4_leave 56 = .ok (.iconst 0, 1) := by decide +kernel
theorem dX4_leave_57 : decode cX4_leave 57 = .ok (.iastore, 1) := by decide +kernel
theorem dX4_leave_58 : decode cX4_leave 58 = .ok (.iinc 2 1, 3) := by decide +kernel
theorem dX4_leave_61 : decode cX4_leave 61 = .ok (.goto (-20), 3) := by decide +kernel
theorem dX4_leave_64 : decode cX4_leave 64 = .ok (.aload_n 0, 1) := by decide +kernel
theorem dX4_leave_65 : decode cX4_leave 65 = .ok (.aload_n 0, 1) := by decide +kernel
theorem dX4_leave_66 : decode cX4_leave 66 = .ok (.iconst 0, 1) := by decide +kernel
theorem dX4_leave_67 : decode cX4_leave 67 = .ok (.invokevirtual 61, 3) := by decide +kernel
theorem dX4_leave_70 : decode cX4_leave 70 = .ok (.aload_n 0, 1) := by decide +kernel
theorem dX4_leave_71 : decode cX4_leave 71 = .ok (.iconst 1, 1) := by decide +kernel
theorem dX4_leave_72 : decode cX4_leave 72 = .ok (.invokevirtual 61, 3) := by decide +kernel
theorem dX4_leave_75 : decode cX4_leave 75 = .ok (.iadd, 1) := by decide +kernel
theorem dX4_leave_76 : decode cX4_leave 76 = .ok (.invokevirtual 49, 3) := by decide +kernel
theorem dX4_leave_79 : decode cX4_leave 79 = .ok (.ireturn, 1) := by decide +kernel
theorem dX4_watch_0 : decode cX4_watch 0 = .ok (.iload_n 1, 1) := by decide +kernel
theorem dX4_watch_1 : decode cX4_watch 1 = .ok (.iconst 1, 1) := by decide +kernel
theorem dX4_watch_2 : decode cX4_watch 2 = .ok (.bipush 60, 2) := by decide +kernel
theorem dX4_watch_4 : decode cX4_watch 4 = .ok (.invokestatic 33, 3) := by decide +kernel
theorem dX4_watch_7 : decode cX4_watch 7 = .ok (.ifCond .ne 6, 3) := by decide +kernel
theorem dX4_watch_10 : decode cX4_watch 10 = .ok (.ldc 40, 2) := by decide +kernel
theorem dX4_watch_12 : decode cX4_watch 12 = .ok (.ireturn, 1) := by decide +kernel
theorem dX4_watch_13 : decode cX4_watch 13 = .ok (.aload_n 0, 1) := by decide +kernel
theorem dX4_watch_14 : decode cX4_watch 14 = .ok (.invokevirtual 46, 3) := by decide +kernel
theorem dX4_watch_17 : decode cX4_watch 17 = .ok (.aload_n 0, 1) := by decide +kernel
theorem dX4_watch_18 : decode cX4_watch 18 = .ok (.getfield 7, 3) := by decide +kernel
theorem dX4_watch_21 : decode cX4_watch 21 = .ok (.iconst 2, 1) := by decide +kernel
theorem dX4_watch_22 : decode cX4_watch 22 = .ok (.iaload, 1) := by decide +kernel
theorem dX4_watch_23 : decode cX4_watch 23 = .ok (.istore_n 2, 1) := by decide +kernel
theorem dX4_watch_24 : decode cX4_watch 24 = .ok (.aload_n 0, 1) := by decide +kernel
theorem dX4_watch_25 : decode cX4_watch 25 = .ok (.getfield 7, 3) := by decide +kernel
theorem dX4_watch_28 : decode cX4_watch 28 = .ok (.iconst 2, 1) := by decide +kernel
theorem dX4_watch_29 : decode cX4_watch 29 = .ok (.iload_n 1, 1) := by decide +kernel
theorem dX4_watch_30 : decode cX4_watch 30 = .ok (.iastore, 1) := by decide +kernel
theorem dX4_watch_31 : decode cX4_watch 31 = .ok (.aload_n 0, 1) := by decide +kernel
theorem dX4_watch_32 : decode cX4_watch 32 = .ok (.iload_n 2, 1) := by decide +kernel
theorem dX4_watch_33 : decode cX4_watch 33 = .ok (.invokevirtual 49, 3) := by decide +kernel
theorem dX4_watch_36 : decode cX4_watch 36 = .ok (.ireturn, 1) := by decide +kernel
theorem dX4_topics_0 : decode cX4_topics 0 = .ok (.iconst 0, 1) := by decide +kernel
theorem dX4_topics_1 : decode cX4_topics 1 = .ok (.istore_n 3, 1) := by decide +kernel
theorem dX4_topics_2 : decode cX4_topics 2 = .ok (.iconst 0, 1) := by decide +kernel
theorem dX4_topics_3 : decode cX4_topics 3 = .ok (.istore 4, 2) := by decide +kernel
theorem dX4_topics_5 : decode cX4_topics 5 = .ok (.iload 4, 2) := by decide +kernel
theorem dX4_topics_7 : decode cX4_topics 7 = .ok (.bipush 12, 2) := by decide +kernel
theorem dX4_topics_9 : decode cX4_topics 9 = .ok (.if_icmp .ge 32, 3) := by decide +kernel
theorem dX4_topics_12 : decode cX4_topics 12 = .ok (.iload_n 3, 1) := by decide +kernel
theorem dX4_topics_13 : decode cX4_topics 13 = .ok (.aload_n 0, 1) := by decide +kernel
theorem dX4_topics_14 : decode cX4_topics 14 = .ok (.iload_n 1, 1) := by decide +kernel
theorem dX4_topics_15 : decode cX4_topics 15 = .ok (.iload 4, 2) := by decide +kernel
theorem dX4_topics_17 : decode cX4_topics 17 = .ok (.iconst 0, 1) := by decide +kernel
theorem dX4_topics_18 : decode cX4_topics 18 = .ok (.invokevirtual 73, 3) := by decide +kernel
theorem dX4_topics_21 : decode cX4_topics 21 = .ok (.iload_n 2, 1) := by decide +kernel
theorem dX4_topics_22 : decode cX4_topics 22 = .ok (.if_icmp .ne 10, 3) := by decide +kernel
theorem dX4_topics_25 : decode cX4_topics 25 = .ok (.iconst 1, 1) := by decide +kernel
theorem dX4_topics_26 : decode cX4_topics 26 = .ok (.iload 4, 2) := by decide +kernel
theorem dX4_topics_28 : decode cX4_topics 28 = .ok (.ishl, 1) := by decide +kernel
theorem dX4_topics_29 : decode cX4_topics 29 = .ok (.goto 4, 3) := by decide +kernel
theorem dX4_topics_32 : decode cX4_topics 32 = .ok (.iconst 0, 1) := by decide +kernel
theorem dX4_topics_33 : decode cX4_topics 33 = .ok (.ior, 1) := by decide +kernel
theorem dX4_topics_34 : decode cX4_topics 34 = .ok (.istore_n 3, 1) := by decide +kernel
theorem dX4_topics_35 : decode cX4_topics 35 = .ok (.iinc 4 1, 3) := by decide +kernel
theorem dX4_topics_38 : decode cX4_topics 38 = .ok (.goto (-33), 3) := by decide +kernel
theorem dX4_topics_41 : decode cX4_topics 41 = .ok (.iload_n 3, 1) := by decide +kernel
theorem dX4_topics_42 : decode cX4_topics 42 = .ok (.ireturn, 1) := by decide +kernel
theorem dX4_villagerOf_0 : decode cX4_villagerOf 0 = .ok (.aload_n 0, 1) := by decide +kernel
theorem dX4_villagerOf_1 : decode cX4_villagerOf 1 = .ok (.iload_n 1, 1) := by decide +kernel
theorem dX4_villagerOf_2 : decode cX4_villagerOf 2 = .ok (.invokevirtual 53, 3) := by decide +kernel
theorem dX4_villagerOf_5 : decode cX4_villagerOf 5 = .ok (.ifCond .eq 12, 3) := by decide +kernel
theorem dX4_villagerOf_8 : decode cX4_villagerOf 8 = .ok (.iload_n 2, 1) := by decide +kernel
theorem dX4_villagerOf_9 : decode cX4_villagerOf 9 = .ok (.iconst 0, 1) := by decide +kernel
theorem dX4_villagerOf_10 : decode cX4_villagerOf 10 = .ok (.iconst 5, 1) := by decide +kernel
theorem dX4_villagerOf_11 : decode cX4_villagerOf 11 = .ok (.invokestatic 33, 3) := by decide +kernel
theorem dX4_villagerOf_14 : decode cX4_villagerOf 14 = .ok (.ifCond .ne 6, 3) := by decide +kernel
theorem dX4_villagerOf_17 : decode cX4_villagerOf 17 = .ok (.ldc 40, 2) := by decide +kernel
theorem dX4_villagerOf_19 : decode cX4_villagerOf 19 = .ok (.ireturn, 1) := by decide +kernel
theorem dX4_villagerOf_20 : decode cX4_villagerOf 20 = .ok (.iload_n 2, 1) := by decide +kernel
theorem dX4_villagerOf_21 : decode cX4_villagerOf 21 = .ok (.tableswitch 76 2 5 #[31, 31, 40, 47], 31) := by decide +kernel
theorem dX4_villagerOf_52 : decode cX4_villagerOf 52 = .ok (.aload_n 0, 1) := by decide +kernel
theorem dX4_villagerOf_53 : decode cX4_villagerOf 53 = .ok (.iload_n 1, 1) := by decide +kernel
theorem dX4_villagerOf_54 : decode cX4_villagerOf 54 = .ok (.iload_n 2, 1) := by decide +kernel
theorem dX4_villagerOf_55 : decode cX4_villagerOf 55 = .ok (.iconst 1, 1) := by decide +kernel
theorem dX4_villagerOf_56 : decode cX4_villagerOf 56 = .ok (.isub, 1) := by decide +kernel
theorem dX4_villagerOf_57 : decode cX4_villagerOf 57 = .ok (.invokevirtual 77, 3) := by decide +kernel
theorem dX4_villagerOf_60 : decode cX4_villagerOf 60 = .ok (.ireturn, 1) := by decide +kernel
theorem dX4_villagerOf_61 : decode cX4_villagerOf 61 = .ok (.aload_n 0, 1) := by decide +kernel
theorem dX4_villagerOf_62 : decode cX4_villagerOf 62 = .ok (.iload_n 1, 1) := by decide +kernel
theorem dX4_villagerOf_63 : decode cX4_villagerOf 63 = .ok (.iconst 2, 1) := by decide +kernel
theorem dX4_villagerOf_64 : decode cX4_villagerOf 64 = .ok (.invokevirtual 37, 3) := by decide +kernel
theorem dX4_villagerOf_67 : decode cX4_villagerOf 67 = .ok (.ireturn, 1) := by decide +kernel
theorem dX4_villagerOf_68 : decode cX4_villagerOf 68 = .ok (.aload_n 0, 1) := by decide +kernel
theorem dX4_villagerOf_69 : decode cX4_villagerOf 69 = .ok (.iload_n 1, 1) := by decide +kernel
theorem dX4_villagerOf_70 : decode cX4_villagerOf 70 = .ok (.iconst 0, 1) := by decide +kernel
theorem dX4_villagerOf_71 : decode cX4_villagerOf 71 = .ok (.invokevirtual 37, 3) := by decide +kernel
theorem dX4_villagerOf_74 : decode cX4_villagerOf 74 = .ok (.iconst 1, 1) := by decide +kernel
theorem dX4_villagerOf_75 : decode cX4_villagerOf 75 = .ok (.if_icmp .ne 19, 3) := by decide +kernel
theorem dX4_villagerOf_78 : decode cX4_villagerOf 78 = .ok (.aload_n 0, 1) := by decide +kernel
theorem dX4_villagerOf_79 : decode cX4_villagerOf 79 = .ok (.getfield 7, 3) := by decide +kernel
theorem dX4_villagerOf_82 : decode cX4_villagerOf 82 = .ok (.iconst 1, 1) := by decide +kernel
theorem dX4_villagerOf_83 : decode cX4_villagerOf 83 = .ok (.iaload, 1) := by decide +kernel
theorem dX4_villagerOf_84 : decode cX4_villagerOf 84 = .ok (.aload_n 0, 1) := by decide +kernel
theorem dX4_villagerOf_85 : decode cX4_villagerOf 85 = .ok (.iload_n 1, 1) := by decide +kernel
theorem dX4_villagerOf_86 : decode cX4_villagerOf 86 = .ok (.iconst 3, 1) := by decide +kernel
theorem dX4_villagerOf_87 : decode cX4_villagerOf 87 = .ok (.invokevirtual 37, 3) := by decide +kernel
theorem dX4_villagerOf_90 : decode cX4_villagerOf 90 = .ok (.isub, 1) := by decide +kernel
theorem dX4_villagerOf_91 : decode cX4_villagerOf 91 = .ok (.goto 5, 3) := by decide +kernel
theorem dX4_villagerOf_94 : decode cX4_villagerOf 94 = .ok (.ldc 80, 2) := by decide +kernel
theorem dX4_villagerOf_96 : decode cX4_villagerOf 96 = .ok (.ireturn, 1) := by decide +kernel
theorem dX4_villagerOf_97 : decode cX4_villagerOf 97 = .ok (.aload_n 0, 1) := by decide +kernel
theorem dX4_villagerOf_98 : decode cX4_villagerOf 98 = .ok (.iload_n 1, 1) := by decide +kernel
theorem dX4_villagerOf_99 : decode cX4_villagerOf 99 = .ok (.iload_n 2, 1) := by decide +kernel
theorem dX4_villagerOf_100 : decode cX4_villagerOf 100 = .ok (.invokevirtual 37, 3) := by decide +kernel
theorem dX4_villagerOf_103 : decode cX4_villagerOf 103 = .ok (.ireturn, 1) := by decide +kernel
theorem dX4_isNewer_0 : decode cX4_isNewer 0 = .ok (.iload_n 0, 1) := by decide +kernel
theorem dX4_isNewer_1 : decode cX4_isNewer 1 = .ok (.iload_n 2, 1) := by decide +kernel
theorem dX4_isNewer_2 : decode cX4_isNewer 2 = .ok (.if_icmp .gt 13, 3) := by decide +kernel
theorem dX4_isNewer_5 : decode cX4_isNewer 5 = .ok (.iload_n 0, 1) := by decide +kernel
theorem dX4_isNewer_6 : decode cX4_isNewer 6 = .ok (.iload_n 2, 1) := by decide +kernel
theorem dX4_isNewer_7 : decode cX4_isNewer 7 = .ok (.if_icmp .ne 12, 3) := by decide +kernel
theorem dX4_isNewer_10 : decode cX4_isNewer 10 = .ok (.iload_n 1, 1) := by decide +kernel
theorem dX4_isNewer_11 : decode cX4_isNewer 11 = .ok (.iload_n 3, 1) := by decide +kernel
theorem dX4_isNewer_12 : decode cX4_isNewer 12 = .ok (.if_icmp .le 7, 3) := by decide +kernel
theorem dX4_isNewer_15 : decode cX4_isNewer 15 = .ok (.iconst 1, 1) := by decide +kernel
theorem dX4_isNewer_16 : decode cX4_isNewer 16 = .ok (.goto 4, 3) := by decide +kernel
theorem dX4_isNewer_19 : decode cX4_isNewer 19 = .ok (.iconst 0, 1) := by decide +kernel
theorem dX4_isNewer_20 : decode cX4_isNewer 20 = .ok (.ireturn, 1) := by decide +kernel
theorem dX4_hasNewer_0 : decode cX4_hasNewer 0 = .ok (.aload_n 0, 1) := by decide +kernel
theorem dX4_hasNewer_1 : decode cX4_hasNewer 1 = .ok (.iload_n 1, 1) := by decide +kernel
theorem dX4_hasNewer_2 : decode cX4_hasNewer 2 = .ok (.iload_n 3, 1) := by decide +kernel
theorem dX4_hasNewer_3 : decode cX4_hasNewer 3 = .ok (.iconst 0, 1) := by decide +kernel
theorem dX4_hasNewer_4 : decode cX4_hasNewer 4 = .ok (.invokevirtual 73, 3) := by decide +kernel
theorem dX4_hasNewer_7 : decode cX4_hasNewer 7 = .ok (.ifCond .eq 13, 3) := by decide +kernel
theorem dX4_hasNewer_10 : decode cX4_hasNewer 10 = .ok (.aload_n 0, 1) := by decide +kernel
theorem dX4_hasNewer_11 : decode cX4_hasNewer 11 = .ok (.iload_n 2, 1) := by decide +kernel
theorem dX4_hasNewer_12 : decode cX4_hasNewer 12 = .ok (.iload_n 3, 1) := by decide +kernel
theorem dX4_hasNewer_13 : decode cX4_hasNewer 13 = .ok (.iconst 0, 1) := by decide +kernel
theorem dX4_hasNewer_14 : decode cX4_hasNewer 14 = .ok (.invokevirtual 73, 3) := by decide +kernel
theorem dX4_hasNewer_17 : decode cX4_hasNewer 17 = .ok (.ifCond .ne 29, 3) := by decide +kernel
theorem dX4_hasNewer_20 : decode cX4_hasNewer 20 = .ok (.aload_n 0, 1) := by decide +kernel
theorem dX4_hasNewer_21 : decode cX4_hasNewer 21 = .ok (.iload_n 1, 1) := by decide +kernel
theorem dX4_hasNewer_22 : decode cX4_hasNewer 22 = .ok (.iload_n 3, 1) := by decide +kernel
theorem dX4_hasNewer_23 : decode cX4_hasNewer 23 = .ok (.iconst 0, 1) := by decide +kernel
theorem dX4_hasNewer_24 : decode cX4_hasNewer 24 = .ok (.invokevirtual 73, 3) := by decide +kernel
theorem dX4_hasNewer_27 : decode cX4_hasNewer 27 = .ok (.ifCond .eq 17, 3) := by decide +kernel
theorem dX4_hasNewer_30 : decode cX4_hasNewer 30 = .ok (.aload_n 0, 1) := by decide +kernel
theorem dX4_hasNewer_31 : decode cX4_hasNewer 31 = .ok (.iload_n 2, 1) := by decide +kernel
theorem dX4_hasNewer_32 : decode cX4_hasNewer 32 = .ok (.iload_n 3, 1) := by decide +kernel
theorem dX4_hasNewer_33 : decode cX4_hasNewer 33 = .ok (.iconst 0, 1) := by decide +kernel
theorem dX4_hasNewer_34 : decode cX4_hasNewer 34 = .ok (.invokevirtual 73, 3) := by decide +kernel
theorem dX4_hasNewer_37 : decode cX4_hasNewer 37 = .ok (.ifCond .ne 7, 3) := by decide +kernel
theorem dX4_hasNewer_40 : decode cX4_hasNewer 40 = .ok (.iconst 1, 1) := by decide +kernel
theorem dX4_hasNewer_41 : decode cX4_hasNewer 41 = .ok (.goto 4, 3) := by decide +kernel
theorem dX4_hasNewer_44 : decode cX4_hasNewer 44 = .ok (.iconst 0, 1) := by decide +kernel
theorem dX4_hasNewer_45 : decode cX4_hasNewer 45 = .ok (.ireturn, 1) := by decide +kernel
theorem dX4_hasNewer_46 : decode cX4_hasNewer 46 = .ok (.aload_n 0, 1) := by decide +kernel
theorem dX4_hasNewer_47 : decode cX4_hasNewer 47 = .ok (.iload_n 1, 1) := by decide +kernel
theorem dX4_hasNewer_48 : decode cX4_hasNewer 48 = .ok (.iload_n 3, 1) := by decide +kernel
theorem dX4_hasNewer_49 : decode cX4_hasNewer 49 = .ok (.iconst 1, 1) := by decide +kernel
theorem dX4_hasNewer_50 : decode cX4_hasNewer 50 = .ok (.invokevirtual 73, 3) := by decide +kernel
theorem dX4_hasNewer_53 : decode cX4_hasNewer 53 = .ok (.aload_n 0, 1) := by decide +kernel
theorem dX4_hasNewer_54 : decode cX4_hasNewer 54 = .ok (.iload_n 1, 1) := by decide +kernel
theorem dX4_hasNewer_55 : decode cX4_hasNewer 55 = .ok (.iload_n 3, 1) := by decide +kernel
theorem dX4_hasNewer_56 : decode cX4_hasNewer 56 = .ok (.iconst 2, 1) := by decide +kernel
theorem dX4_hasNewer_57 : decode cX4_hasNewer 57 = .ok (.invokevirtual 73, 3) := by decide +kernel
theorem dX4_hasNewer_60 : decode cX4_hasNewer 60 = .ok (.aload_n 0, 1) := by decide +kernel
theorem dX4_hasNewer_61 : decode cX4_hasNewer 61 = .ok (.iload_n 2, 1) := by decide +kernel
theorem dX4_hasNewer_62 : decode cX4_hasNewer 62 = .ok (.iload_n 3, 1) := by decide +kernel
theorem dX4_hasNewer_63 : decode cX4_hasNewer 63 = .ok (.iconst 1, 1) := by decide +kernel
theorem dX4_hasNewer_64 : decode cX4_hasNewer 64 = .ok (.invokevirtual 73, 3) := by decide +kernel
theorem dX4_hasNewer_67 : decode cX4_hasNewer 67 = .ok (.aload_n 0, 1) := by decide +kernel
theorem dX4_hasNewer_68 : decode cX4_hasNewer 68 = .ok (.iload_n 2, 1) := by decide +kernel
theorem dX4_hasNewer_69 : decode cX4_hasNewer 69 = .ok (.iload_n 3, 1) := by decide +kernel
theorem dX4_hasNewer_70 : decode cX4_hasNewer 70 = .ok (.iconst 2, 1) := by decide +kernel
theorem dX4_hasNewer_71 : decode cX4_hasNewer 71 = .ok (.invokevirtual 73, 3) := by decide +kernel
theorem dX4_hasNewer_74 : decode cX4_hasNewer 74 = .ok (.invokestatic 81, 3) := by decide +kernel
theorem dX4_hasNewer_77 : decode cX4_hasNewer 77 = .ok (.ireturn, 1) := by decide +kernel
theorem dX4_areSame_0 : decode cX4_areSame 0 = .ok (.aload_n 0, 1) := by decide +kernel
theorem dX4_areSame_1 : decode cX4_areSame 1 = .ok (.iload_n 1, 1) := by decide +kernel
theorem dX4_areSame_2 : decode cX4_areSame 2 = .ok (.iload_n 3, 1) := by decide +kernel
theorem dX4_areSame_3 : decode cX4_areSame 3 = .ok (.iconst 0, 1) := by decide +kernel
theorem dX4_areSame_4 : decode cX4_areSame 4 = .ok (.invokevirtual 73, 3) := by decide +kernel
theorem dX4_areSame_7 : decode cX4_areSame 7 = .ok (.ifCond .ne 7, 3) := by decide +kernel
theorem dX4_areSame_10 : decode cX4_areSame 10 = .ok (.iconst 1, 1) := by decide +kernel
theorem dX4_areSame_11 : decode cX4_areSame 11 = .ok (.goto 4, 3) := by decide +kernel
theorem dX4_areSame_14 : decode cX4_areSame 14 = .ok (.iconst 0, 1) := by decide +kernel
theorem dX4_areSame_15 : decode cX4_areSame 15 = .ok (.aload_n 0, 1) := by decide +kernel
theorem dX4_areSame_16 : decode cX4_areSame 16 = .ok (.iload_n 2, 1) := by decide +kernel
theorem dX4_areSame_17 : decode cX4_areSame 17 = .ok (.iload_n 3, 1) := by decide +kernel
theorem dX4_areSame_18 : decode cX4_areSame 18 = .ok (.iconst 0, 1) := by decide +kernel
theorem dX4_areSame_19 : decode cX4_areSame 19 = .ok (.invokevirtual 73, 3) := by decide +kernel
theorem dX4_areSame_22 : decode cX4_areSame 22 = .ok (.ifCond .ne 7, 3) := by decide +kernel
theorem dX4_areSame_25 : decode cX4_areSame 25 = .ok (.iconst 1, 1) := by decide +kernel
theorem dX4_areSame_26 : decode cX4_areSame 26 = .ok (.goto 4, 3) := by decide +kernel
theorem dX4_areSame_29 : decode cX4_areSame 29 = .ok (.iconst 0, 1) := by decide +kernel
theorem dX4_areSame_30 : decode cX4_areSame 30 = .ok (.if_icmp .ne 27, 3) := by decide +kernel
theorem dX4_areSame_33 : decode cX4_areSame 33 = .ok (.aload_n 0, 1) := by decide +kernel
theorem dX4_areSame_34 : decode cX4_areSame 34 = .ok (.iload_n 1, 1) := by decide +kernel
theorem dX4_areSame_35 : decode cX4_areSame 35 = .ok (.iload_n 2, 1) := by decide +kernel
theorem dX4_areSame_36 : decode cX4_areSame 36 = .ok (.iload_n 3, 1) := by decide +kernel
theorem dX4_areSame_37 : decode cX4_areSame 37 = .ok (.invokevirtual 85, 3) := by decide +kernel
theorem dX4_areSame_40 : decode cX4_areSame 40 = .ok (.ifCond .ne 17, 3) := by decide +kernel
theorem dX4_areSame_43 : decode cX4_areSame 43 = .ok (.aload_n 0, 1) := by decide +kernel
theorem dX4_areSame_44 : decode cX4_areSame 44 = .ok (.iload_n 2, 1) := by decide +kernel
theorem dX4_areSame_45 : decode cX4_areSame 45 = .ok (.iload_n 1, 1) := by decide +kernel
theorem dX4_areSame_46 : decode cX4_areSame 46 = .ok (.iload_n 3, 1) := by decide +kernel
theorem dX4_areSame_47 : decode cX4_areSame 47 = .ok (.invokevirtual 85, 3) := by decide +kernel
theorem dX4_areSame_50 : decode cX4_areSame 50 = .ok (.ifCond .ne 7, 3) := by decide +kernel
theorem dX4_areSame_53 : decode cX4_areSame 53 = .ok (.iconst 1, 1) := by decide +kernel
theorem dX4_areSame_54 : decode cX4_areSame 54 = .ok (.goto 4, 3) := by decide +kernel
theorem dX4_areSame_57 : decode cX4_areSame 57 = .ok (.iconst 0, 1) := by decide +kernel
theorem dX4_areSame_58 : decode cX4_areSame 58 = .ok (.ireturn, 1) := by decide +kernel
theorem dX4_makes_0 : decode cX4_makes 0 = .ok (.aload_n 0, 1) := by decide +kernel
theorem dX4_makes_1 : decode cX4_makes 1 = .ok (.getfield 7, 3) := by decide +kernel
theorem dX4_makes_4 : decode cX4_makes 4 = .ok (.iconst 5, 1) := by decide +kernel
theorem dX4_makes_5 : decode cX4_makes 5 = .ok (.iconst 4, 1) := by decide +kernel
theorem dX4_makes_6 : decode cX4_makes 6 = .ok (.iload_n 1, 1) := by decide +kernel
theorem dX4_makes_7 : decode cX4_makes 7 = .ok (.imul, 1) := by decide +kernel
theorem dX4_makes_8 : decode cX4_makes 8 = .ok (.iadd, 1) := by decide +kernel
theorem dX4_makes_9 : decode cX4_makes 9 = .ok (.iconst 1, 1) := by decide +kernel
theorem dX4_makes_10 : decode cX4_makes 10 = .ok (.iadd, 1) := by decide +kernel
theorem dX4_makes_11 : decode cX4_makes 11 = .ok (.dup2, 1) := by decide +kernel
theorem dX4_makes_12 : decode cX4_makes 12 = .ok (.iaload, 1) := by decide +kernel
theorem dX4_makes_13 : decode cX4_makes 13 = .ok (.iconst 1, 1) := by decide +kernel
theorem dX4_makes_14 : decode cX4_makes 14 = .ok (.iadd, 1) := by decide +kernel
theorem dX4_makes_15 : decode cX4_makes 15 = .ok (.iastore, 1) := by decide +kernel
theorem dX4_makes_16 : decode cX4_makes 16 = .ok (.iload_n 1, 1) := by decide +kernel
theorem dX4_makes_17 : decode cX4_makes 17 = .ok (.iload_n 2, 1) := by decide +kernel
theorem dX4_makes_18 : decode cX4_makes 18 = .ok (.invokestatic 29, 3) := by decide +kernel
theorem dX4_makes_21 : decode cX4_makes 21 = .ok (.istore 6, 2) := by decide +kernel
theorem dX4_makes_23 : decode cX4_makes 23 = .ok (.aload_n 0, 1) := by decide +kernel
theorem dX4_makes_24 : decode cX4_makes 24 = .ok (.getfield 7, 3) := by decide +kernel
theorem dX4_makes_27 : decode cX4_makes 27 = .ok (.iload 6, 2) := by decide +kernel
theorem dX4_makes_29 : decode cX4_makes 29 = .ok (.iload_n 3, 1) := by decide +kernel
theorem dX4_makes_30 : decode cX4_makes 30 = .ok (.iastore, 1) := by decide +kernel
theorem dX4_makes_31 : decode cX4_makes 31 = .ok (.aload_n 0, 1) := by decide +kernel
theorem dX4_makes_32 : decode cX4_makes 32 = .ok (.getfield 7, 3) := by decide +kernel
theorem dX4_makes_35 : decode cX4_makes 35 = .ok (.iload 6, 2) := by decide +kernel
theorem dX4_makes_37 : decode cX4_makes 37 = .ok (.iconst 1, 1) := by decide +kernel
theorem dX4_makes_38 : decode cX4_makes 38 = .ok (.iadd, 1) := by decide +kernel
theorem dX4_makes_39 : decode cX4_makes 39 = .ok (.aload_n 0, 1) := by decide +kernel
theorem dX4_makes_40 : decode cX4_makes 40 = .ok (.iload_n 1, 1) := by decide +kernel
theorem dX4_makes_41 : decode cX4_makes 41 = .ok (.iconst 1, 1) := by decide +kernel
theorem dX4_makes_42 : decode cX4_makes 42 = .ok (.invokevirtual 37, 3) := by decide +kernel
theorem dX4_makes_45 : decode cX4_makes 45 = .ok (.iastore, 1) := by decide +kernel
theorem dX4_makes_46 : decode cX4_makes 46 = .ok (.aload_n 0, 1) := by decide +kernel
theorem dX4_makes_47 : decode cX4_makes 47 = .ok (.getfield 7, 3) := by decide +kernel
theorem dX4_makes_50 : decode cX4_makes 50 = .ok (.iload 6, 2) := by decide +kernel
theorem dX4_makes_52 : decode cX4_makes 52 = .ok (.iconst 2, 1) := by decide +kernel
theorem dX4_makes_53 : decode cX4_makes 53 = .ok (.iadd, 1) := by decide +kernel
theorem dX4_makes_54 : decode cX4_makes 54 = .ok (.iload_n 1, 1) := by decide +kernel
theorem dX4_makes_55 : decode cX4_makes 55 = .ok (.iastore, 1) := by decide +kernel
theorem dX4_makes_56 : decode cX4_makes 56 = .ok (.aload_n 0, 1) := by decide +kernel
theorem dX4_makes_57 : decode cX4_makes 57 = .ok (.getfield 7, 3) := by decide +kernel
theorem dX4_makes_60 : decode cX4_makes 60 = .ok (.iload 6, 2) := by decide +kernel
theorem dX4_makes_62 : decode cX4_makes 62 = .ok (.iconst 3, 1) := by decide +kernel
theorem dX4_makes_63 : decode cX4_makes 63 = .ok (.iadd, 1) := by decide +kernel
theorem dX4_makes_64 : decode cX4_makes 64 = .ok (.iload 4, 2) := by decide +kernel
theorem dX4_makes_66 : decode cX4_makes 66 = .ok (.iastore, 1) := by decide +kernel
theorem dX4_makes_67 : decode cX4_makes 67 = .ok (.aload_n 0, 1) := by decide +kernel
theorem dX4_makes_68 : decode cX4_makes 68 = .ok (.getfield 7, 3) := by decide +kernel
theorem dX4_makes_71 : decode cX4_makes 71 = .ok (.iload 6, 2) := by decide +kernel
theorem dX4_makes_73 : decode cX4_makes 73 = .ok (.iconst 4, 1) := by decide +kernel
theorem dX4_makes_74 : decode cX4_makes 74 = .ok (.iadd, 1) := by decide +kernel
theorem dX4_makes_75 : decode cX4_makes 75 = .ok (.iload 5, 2) := by decide +kernel
theorem dX4_makes_77 : decode cX4_makes 77 = .ok (.iastore, 1) := by decide +kernel
theorem dX4_makes_78 : decode cX4_makes 78 = .ok (.aload_n 0, 1) := by decide +kernel
theorem dX4_makes_79 : decode cX4_makes 79 = .ok (.getfield 7, 3) := by decide +kernel
theorem dX4_makes_82 : decode cX4_makes 82 = .ok (.iload 6, 2) := by decide +kernel
theorem dX4_makes_84 : decode cX4_makes 84 = .ok (.iconst 5, 1) := by decide +kernel
theorem dX4_makes_85 : decode cX4_makes 85 = .ok (.iadd, 1) := by decide +kernel
theorem dX4_makes_86 : decode cX4_makes 86 = .ok (.aload_n 0, 1) := by decide +kernel
theorem dX4_makes_87 : decode cX4_makes 87 = .ok (.getfield 7, 3) := by decide +kernel
theorem dX4_makes_90 : decode cX4_makes 90 = .ok (.iconst 1, 1) := by decide +kernel
theorem dX4_makes_91 : decode cX4_makes 91 = .ok (.iaload, 1) := by decide +kernel
theorem dX4_makes_92 : decode cX4_makes 92 = .ok (.iastore, 1) := by decide +kernel
theorem dX4_makes_93 : decode cX4_makes 93 = .ok (.aload_n 0, 1) := by decide +kernel
theorem dX4_makes_94 : decode cX4_makes 94 = .ok (.getfield 7, 3) := by decide +kernel
theorem dX4_makes_97 : decode cX4_makes 97 = .ok (.iload 6, 2) := by decide +kernel
theorem dX4_makes_99 : decode cX4_makes 99 = .ok (.bipush 6, 2) := by decide +kernel
theorem dX4_makes_101 : decode cX4_makes 101 = .ok (.iadd, 1) := by decide +kernel
theorem dX4_makes_102 : decode cX4_makes 102 = .ok (.iconst 1, 1) := by decide +kernel
theorem dX4_makes_103 : decode cX4_makes 103 = .ok (.iload_n 1, 1) := by decide +kernel
theorem dX4_makes_104 : decode cX4_makes 104 = .ok (.ishl, 1) := by decide +kernel
theorem dX4_makes_105 : decode cX4_makes 105 = .ok (.iastore, 1) := by decide +kernel
theorem dX4_makes_106 : decode cX4_makes 106 = .ok (.aload_n 0, 1) := by decide +kernel
theorem dX4_makes_107 : decode cX4_makes 107 = .ok (.iload_n 1, 1) := by decide +kernel
theorem dX4_makes_108 : decode cX4_makes 108 = .ok (.iconst 1, 1) := by decide +kernel
theorem dX4_makes_109 : decode cX4_makes 109 = .ok (.invokevirtual 37, 3) := by decide +kernel
theorem dX4_makes_112 : decode cX4_makes 112 = .ok (.ireturn, 1) := by decide +kernel
theorem dX4_tells_0 : decode cX4_tells 0 = .ok (.aload_n 0, 1) := by decide +kernel
theorem dX4_tells_1 : decode cX4_tells 1 = .ok (.iload_n 1, 1) := by decide +kernel
theorem dX4_tells_2 : decode cX4_tells 2 = .ok (.invokevirtual 53, 3) := by decide +kernel
theorem dX4_tells_5 : decode cX4_tells 5 = .ok (.ifCond .eq 30, 3) := by decide +kernel
theorem dX4_tells_8 : decode cX4_tells 8 = .ok (.iload_n 2, 1) := by decide +kernel
theorem dX4_tells_9 : decode cX4_tells 9 = .ok (.invokestatic 88, 3) := by decide +kernel
theorem dX4_tells_12 : decode cX4_tells 12 = .ok (.ifCond .eq 23, 3) := by decide +kernel
theorem dX4_tells_15 : decode cX4_tells 15 = .ok (.iload_n 3, 1) := by decide +kernel
theorem dX4_tells_16 : decode cX4_tells 16 = .ok (.iconst 0, 1) := by decide +kernel
theorem dX4_tells_17 : decode cX4_tells 17 = .ok (.bipush 99, 2) := by decide +kernel
theorem dX4_tells_19 : decode cX4_tells 19 = .ok (.invokestatic 33, 3) := by decide +kernel
theorem dX4_tells_22 : decode cX4_tells 22 = .ok (.ifCond .eq 13, 3) := by decide +kernel
theorem dX4_tells_25 : decode cX4_tells 25 = .ok (.iload 4, 2) := by decide +kernel
theorem dX4_tells_27 : decode cX4_tells 27 = .ok (.iconst 0, 1) := by decide +kernel
theorem dX4_tells_28 : decode cX4_tells 28 = .ok (.iconst 2, 1) := by decide +kernel
theorem dX4_tells_29 : decode cX4_tells 29 = .ok (.invokestatic 33, 3) := by decide +kernel
theorem dX4_tells_32 : decode cX4_tells 32 = .ok (.ifCond .ne 6, 3) := by decide +kernel
theorem dX4_tells_35 : decode cX4_tells 35 = .ok (.ldc 40, 2) := by decide +kernel
theorem dX4_tells_37 : decode cX4_tells 37 = .ok (.ireturn, 1) := by decide +kernel
theorem dX4_tells_38 : decode cX4_tells 38 = .ok (.aload_n 0, 1) := by decide +kernel
theorem dX4_tells_39 : decode cX4_tells 39 = .ok (.iload_n 1, 1) := by decide +kernel
theorem dX4_tells_40 : decode cX4_tells 40 = .ok (.invokevirtual 57, 3) := by decide +kernel
theorem dX4_tells_43 : decode cX4_tells 43 = .ok (.ifCond .eq 16, 3) := by decide +kernel
theorem dX4_tells_46 : decode cX4_tells 46 = .ok (.aload_n 0, 1) := by decide +kernel
theorem dX4_tells_47 : decode cX4_tells 47 = .ok (.iload_n 1, 1) := by decide +kernel
theorem dX4_tells_48 : decode cX4_tells 48 = .ok (.iload_n 2, 1) := by decide +kernel
theorem dX4_tells_49 : decode cX4_tells 49 = .ok (.iconst 1, 1) := by decide +kernel
theorem dX4_tells_50 : decode cX4_tells 50 = .ok (.iload_n 3, 1) := by decide +kernel
theorem dX4_tells_51 : decode cX4_tells 51 = .ok (.iload 4, 2) := by decide +kernel
theorem dX4_tells_53 : decode cX4_tells 53 = .ok (.invokevirtual 91, 3) := by decide +kernel
theorem dX4_tells_56 : decode cX4_tells 56 = .ok (.goto 5, 3) := by decide +kernel
theorem dX4_tells_59 : decode cX4_tells 59 = .ok (.ldc 60, 2) := by decide +kernel
theorem dX4_tells_61 : decode cX4_tells 61 = .ok (.ireturn, 1) := by decide +kernel
theorem dX4_tell_0 : decode cX4_tell 0 = .ok (.aload_n 0, 1) := by decide +kernel
theorem dX4_tell_1 : decode cX4_tell 1 = .ok (.invokevirtual 46, 3) := by decide +kernel
theorem dX4_tell_4 : decode cX4_tell 4 = .ok (.aload_n 0, 1) := by decide +kernel
theorem dX4_tell_5 : decode cX4_tell 5 = .ok (.aload_n 0, 1) := by decide +kernel
theorem dX4_tell_6 : decode cX4_tell 6 = .ok (.iload_n 1, 1) := by decide +kernel
theorem dX4_tell_7 : decode cX4_tell 7 = .ok (.iload_n 2, 1) := by decide +kernel
theorem dX4_tell_8 : decode cX4_tell 8 = .ok (.iload_n 3, 1) := by decide +kernel
theorem dX4_tell_9 : decode cX4_tell 9 = .ok (.iload 4, 2) := by decide +kernel
theorem dX4_tell_11 : decode cX4_tell 11 = .ok (.invokevirtual 95, 3) := by decide +kernel
theorem dX4_tell_14 : decode cX4_tell 14 = .ok (.invokevirtual 49, 3) := by decide +kernel
theorem dX4_tell_17 : decode cX4_tell 17 = .ok (.ireturn, 1) := by decide +kernel
theorem dX4_buries_0 : decode cX4_buries 0 = .ok (.aload_n 0, 1) := by decide +kernel
theorem dX4_buries_1 : decode cX4_buries 1 = .ok (.iload_n 1, 1) := by decide +kernel
theorem dX4_buries_2 : decode cX4_buries 2 = .ok (.invokevirtual 53, 3) := by decide +kernel
theorem dX4_buries_5 : decode cX4_buries 5 = .ok (.ifCond .eq 10, 3) := by decide +kernel
theorem dX4_buries_8 : decode cX4_buries 8 = .ok (.iload_n 2, 1) := by decide +kernel
theorem dX4_buries_9 : decode cX4_buries 9 = .ok (.invokestatic 88, 3) := by decide +kernel
theorem dX4_buries_12 : decode cX4_buries 12 = .ok (.ifCond .ne 6, 3) := by decide +kernel
theorem dX4_buries_15 : decode cX4_buries 15 = .ok (.ldc 40, 2) := by decide +kernel
theorem dX4_buries_17 : decode cX4_buries 17 = .ok (.ireturn, 1) := by decide +kernel
theorem dX4_buries_18 : decode cX4_buries 18 = .ok (.aload_n 0, 1) := by decide +kernel
theorem dX4_buries_19 : decode cX4_buries 19 = .ok (.iload_n 1, 1) := by decide +kernel
theorem dX4_buries_20 : decode cX4_buries 20 = .ok (.invokevirtual 57, 3) := by decide +kernel
theorem dX4_buries_23 : decode cX4_buries 23 = .ok (.ifCond .eq 14, 3) := by decide +kernel
theorem dX4_buries_26 : decode cX4_buries 26 = .ok (.aload_n 0, 1) := by decide +kernel
theorem dX4_buries_27 : decode cX4_buries 27 = .ok (.iload_n 1, 1) := by decide +kernel
theorem dX4_buries_28 : decode cX4_buries 28 = .ok (.iload_n 2, 1) := by decide +kernel
theorem dX4_buries_29 : decode cX4_buries 29 = .ok (.iconst 0, 1) := by decide +kernel
theorem dX4_buries_30 : decode cX4_buries 30 = .ok (.invokevirtual 73, 3) := by decide +kernel
theorem dX4_buries_33 : decode cX4_buries 33 = .ok (.iconst 1, 1) := by decide +kernel
theorem dX4_buries_34 : decode cX4_buries 34 = .ok (.if_icmp .eq 6, 3) := by decide +kernel
theorem dX4_buries_37 : decode cX4_buries 37 = .ok (.ldc 60, 2) := by decide +kernel
theorem dX4_buries_39 : decode cX4_buries 39 = .ok (.ireturn, 1) := by decide +kernel
theorem dX4_buries_40 : decode cX4_buries 40 = .ok (.aload_n 0, 1) := by decide +kernel
theorem dX4_buries_41 : decode cX4_buries 41 = .ok (.iload_n 1, 1) := by decide +kernel
theorem dX4_buries_42 : decode cX4_buries 42 = .ok (.iload_n 2, 1) := by decide +kernel
theorem dX4_buries_43 : decode cX4_buries 43 = .ok (.iconst 2, 1) := by decide +kernel
theorem dX4_buries_44 : decode cX4_buries 44 = .ok (.iconst 0, 1) := by decide +kernel
theorem dX4_buries_45 : decode cX4_buries 45 = .ok (.iconst 0, 1) := by decide +kernel
theorem dX4_buries_46 : decode cX4_buries 46 = .ok (.invokevirtual 91, 3) := by decide +kernel
theorem dX4_buries_49 : decode cX4_buries 49 = .ok (.istore_n 3, 1) := by decide +kernel
theorem dX4_buries_50 : decode cX4_buries 50 = .ok (.aload_n 0, 1) := by decide +kernel
theorem dX4_buries_51 : decode cX4_buries 51 = .ok (.getfield 7, 3) := by decide +kernel
theorem dX4_buries_54 : decode cX4_buries 54 = .ok (.iconst 4, 1) := by decide +kernel
theorem dX4_buries_55 : decode cX4_buries 55 = .ok (.dup2, 1) := by decide +kernel
theorem dX4_buries_56 : decode cX4_buries 56 = .ok (.iaload, 1) := by decide +kernel
theorem dX4_buries_57 : decode cX4_buries 57 = .ok (.iconst 1, 1) := by decide +kernel
theorem dX4_buries_58 : decode cX4_buries 58 = .ok (.iadd, 1) := by decide +kernel
theorem dX4_buries_59 : decode cX4_buries 59 = .ok (.iastore, 1) := by decide +kernel
theorem dX4_buries_60 : decode cX4_buries 60 = .ok (.iload_n 3, 1) := by decide +kernel
theorem dX4_buries_61 : decode cX4_buries 61 = .ok (.iload_n 1, 1) := by decide +kernel
theorem dX4_buries_62 : decode cX4_buries 62 = .ok (.aload_n 0, 1) := by decide +kernel
theorem dX4_buries_63 : decode cX4_buries 63 = .ok (.getfield 7, 3) := by decide +kernel
theorem dX4_buries_66 : decode cX4_buries 66 = .ok (.bipush 33, 2) := by decide +kernel
theorem dX4_buries_68 : decode cX4_buries 68 = .ok (.iconst 2, 1) := by decide +kernel
theorem dX4_buries_69 : decode cX4_buries 69 = .ok (.iload_n 2, 1) := by decide +kernel
theorem dX4_buries_70 : decode cX4_buries 70 = .ok (.imul, 1) := by decide +kernel
theorem dX4_buries_71 : decode cX4_buries 71 = .ok (.iadd, 1) := by decide +kernel
theorem dX4_buries_72 : decode cX4_buries 72 = .ok (.iaload, 1) := by decide +kernel
theorem dX4_buries_73 : decode cX4_buries 73 = .ok (.aload_n 0, 1) := by decide +kernel
theorem dX4_buries_74 : decode cX4_buries 74 = .ok (.getfield 7, 3) := by decide +kernel
theorem dX4_buries_77 : decode cX4_buries 77 = .ok (.bipush 33, 2) := by decide +kernel
theorem dX4_buries_79 : decode cX4_buries 79 = .ok (.iconst 2, 1) := by decide +kernel
theorem dX4_buries_80 : decode cX4_buries 80 = .ok (.iload_n 2, 1) := by decide +kernel
theorem dX4_buries_81 : decode cX4_buries 81 = .ok (.imul, 1) := by decide +kernel
theorem dX4_buries_82 : decode cX4_buries 82 = .ok (.iadd, 1) := by decide +kernel
theorem dX4_buries_83 : decode cX4_buries 83 = .ok (.iconst 1, 1) := by decide +kernel
theorem dX4_buries_84 : decode cX4_buries 84 = .ok (.iadd, 1) := by decide +kernel
theorem dX4_buries_85 : decode cX4_buries 85 = .ok (.iaload, 1) := by decide +kernel
theorem dX4_buries_86 : decode cX4_buries 86 = .ok (.invokestatic 81, 3) := by decide +kernel
theorem dX4_buries_89 : decode cX4_buries 89 = .ok (.ifCond .eq 29, 3) := by decide +kernel
theorem dX4_buries_92 : decode cX4_buries 92 = .ok (.aload_n 0, 1) := by decide +kernel
theorem dX4_buries_93 : decode cX4_buries 93 = .ok (.getfield 7, 3) := by decide +kernel
theorem dX4_buries_96 : decode cX4_buries 96 = .ok (.bipush 33, 2) := by decide +kernel
theorem dX4_buries_98 : decode cX4_buries 98 = .ok (.iconst 2, 1) := by decide +kernel
theorem dX4_buries_99 : decode cX4_buries 99 = .ok (.iload_n 2, 1) := by decide +kernel
theorem dX4_buries_100 : decode cX4_buries 100 = .ok (.imul, 1) := by decide +kernel
theorem dX4_buries_101 : decode cX4_buries 101 = .ok (.iadd, 1) := by decide +kernel
theorem dX4_buries_102 : decode cX4_buries 102 = .ok (.iload_n 3, 1) := by decide +kernel
theorem dX4_buries_103 : decode cX4_buries 103 = .ok (.iastore, 1) := by decide +kernel
theorem dX4_buries_104 : decode cX4_buries 104 = .ok (.aload_n 0, 1) := by decide +kernel
theorem dX4_buries_105 : decode cX4_buries 105 = .ok (.getfield 7, 3) := by decide +kernel
theorem dX4_buries_108 : decode cX4_buries 108 = .ok (.bipush 33, 2) := by decide +kernel
theorem dX4_buries_110 : decode cX4_buries 110 = .ok (.iconst 2, 1) := by decide +kernel
theorem dX4_buries_111 : decode cX4_buries 111 = .ok (.iload_n 2, 1) := by decide +kernel
theorem dX4_buries_112 : decode cX4_buries 112 = .ok (.imul, 1) := by decide +kernel
theorem dX4_buries_113 : decode cX4_buries 113 = .ok (.iadd, 1) := by decide +kernel
theorem dX4_buries_114 : decode cX4_buries 114 = .ok (.iconst 1, 1) := by decide +kernel
theorem dX4_buries_115 : decode cX4_buries 115 = .ok (.iadd, 1) := by decide +kernel
theorem dX4_buries_116 : decode cX4_buries 116 = .ok (.iload_n 1, 1) := by decide +kernel
theorem dX4_buries_117 : decode cX4_buries 117 = .ok (.iastore, 1) := by decide +kernel
theorem dX4_buries_118 : decode cX4_buries 118 = .ok (.iload_n 3, 1) := by decide +kernel
theorem dX4_buries_119 : decode cX4_buries 119 = .ok (.ireturn, 1) := by decide +kernel
theorem dX4_bury_0 : decode cX4_bury 0 = .ok (.aload_n 0, 1) := by decide +kernel
theorem dX4_bury_1 : decode cX4_bury 1 = .ok (.invokevirtual 46, 3) := by decide +kernel
theorem dX4_bury_4 : decode cX4_bury 4 = .ok (.aload_n 0, 1) := by decide +kernel
theorem dX4_bury_5 : decode cX4_bury 5 = .ok (.aload_n 0, 1) := by decide +kernel
theorem dX4_bury_6 : decode cX4_bury 6 = .ok (.iload_n 1, 1) := by decide +kernel
theorem dX4_bury_7 : decode cX4_bury 7 = .ok (.iload_n 2, 1) := by decide +kernel
theorem dX4_bury_8 : decode cX4_bury 8 = .ok (.invokevirtual 99, 3) := by decide +kernel
theorem dX4_bury_11 : decode cX4_bury 11 = .ok (.invokevirtual 49, 3) := by decide +kernel
theorem dX4_bury_14 : decode cX4_bury 14 = .ok (.ireturn, 1) := by decide +kernel
theorem dX4_mayPass_0 : decode cX4_mayPass 0 = .ok (.aload_n 0, 1) := by decide +kernel
theorem dX4_mayPass_1 : decode cX4_mayPass 1 = .ok (.iload_n 1, 1) := by decide +kernel
theorem dX4_mayPass_2 : decode cX4_mayPass 2 = .ok (.iload_n 3, 1) := by decide +kernel
theorem dX4_mayPass_3 : decode cX4_mayPass 3 = .ok (.iconst 0, 1) := by decide +kernel
theorem dX4_mayPass_4 : decode cX4_mayPass 4 = .ok (.invokevirtual 73, 3) := by decide +kernel
theorem dX4_mayPass_7 : decode cX4_mayPass 7 = .ok (.iconst 2, 1) := by decide +kernel
theorem dX4_mayPass_8 : decode cX4_mayPass 8 = .ok (.if_icmp .ne 7, 3) := by decide +kernel
theorem dX4_mayPass_11 : decode cX4_mayPass 11 = .ok (.iconst 0, 1) := by decide +kernel
theorem dX4_mayPass_12 : decode cX4_mayPass 12 = .ok (.goto 10, 3) := by decide +kernel
theorem dX4_mayPass_15 : decode cX4_mayPass 15 = .ok (.aload_n 0, 1) := by decide +kernel
theorem dX4_mayPass_16 : decode cX4_mayPass 16 = .ok (.iload_n 1, 1) := by decide +kernel
theorem dX4_mayPass_17 : decode cX4_mayPass 17 = .ok (.iload_n 3, 1) := by decide +kernel
theorem dX4_mayPass_18 : decode cX4_mayPass 18 = .ok (.iconst 4, 1) := by decide +kernel
theorem dX4_mayPass_19 : decode cX4_mayPass 19 = .ok (.invokevirtual 73, 3) := by decide +kernel
theorem dX4_mayPass_22 : decode cX4_mayPass 22 = .ok (.istore 4, 2) := by decide +kernel
theorem dX4_mayPass_24 : decode cX4_mayPass 24 = .ok (.iload 4, 2) := by decide +kernel
theorem dX4_mayPass_26 : decode cX4_mayPass 26 = .ok (.ifCond .eq 25, 3) := by decide +kernel
theorem dX4_mayPass_29 : decode cX4_mayPass 29 = .ok (.aload_n 0, 1) := by decide +kernel
theorem dX4_mayPass_30 : decode cX4_mayPass 30 = .ok (.iload_n 1, 1) := by decide +kernel
theorem dX4_mayPass_31 : decode cX4_mayPass 31 = .ok (.iload_n 3, 1) := by decide +kernel
theorem dX4_mayPass_32 : decode cX4_mayPass 32 = .ok (.iconst 2, 1) := by decide +kernel
theorem dX4_mayPass_33 : decode cX4_mayPass 33 = .ok (.invokevirtual 73, 3) := by decide +kernel
theorem dX4_mayPass_36 : decode cX4_mayPass 36 = .ok (.iload_n 1, 1) := by decide +kernel
theorem dX4_mayPass_37 : decode cX4_mayPass 37 = .ok (.if_icmp .ne 18, 3) := by decide +kernel
theorem dX4_mayPass_40 : decode cX4_mayPass 40 = .ok (.iload 4, 2) := by decide +kernel
theorem dX4_mayPass_42 : decode cX4_mayPass 42 = .ok (.iconst 1, 1) := by decide +kernel
theorem dX4_mayPass_43 : decode cX4_mayPass 43 = .ok (.if_icmp .eq 8, 3) := by decide +kernel
theorem dX4_mayPass_46 : decode cX4_mayPass 46 = .ok (.iload_n 2, 1) := by decide +kernel
theorem dX4_mayPass_47 : decode cX4_mayPass 47 = .ok (.iload_n 1, 1) := by decide +kernel
theorem dX4_mayPass_48 : decode cX4_mayPass 48 = .ok (.if_icmp .le 7, 3) := by decide +kernel
theorem dX4_mayPass_51 : decode cX4_mayPass 51 = .ok (.iconst 1, 1) := by decide +kernel
theorem dX4_mayPass_52 : decode cX4_mayPass 52 = .ok (.goto 4, 3) := by decide +kernel
theorem dX4_mayPass_55 : decode cX4_mayPass 55 = .ok (.iconst 0, 1) := by decide +kernel
theorem dX4_mayPass_56 : decode cX4_mayPass 56 = .ok (.ireturn, 1) := by decide +kernel
theorem dX4_isGhost_0 : decode cX4_isGhost 0 = .ok (.bipush 57, 2) := by decide +kernel
theorem dX4_isGhost_2 : decode cX4_isGhost 2 = .ok (.bipush 24, 2) := by decide +kernel
theorem dX4_isGhost_4 : decode cX4_isGhost 4 = .ok (.iload_n 2, 1) := by decide +kernel
theorem dX4_isGhost_5 : decode cX4_isGhost 5 = .ok (.imul, 1) := by decide +kernel
theorem dX4_isGhost_6 : decode cX4_isGhost 6 = .ok (.iadd, 1) := by decide +kernel
theorem dX4_isGhost_7 : decode cX4_isGhost 7 = .ok (.iconst 2, 1) := by decide +kernel
theorem dX4_isGhost_8 : decode cX4_isGhost 8 = .ok (.iload_n 3, 1) := by decide +kernel
theorem dX4_isGhost_9 : decode cX4_isGhost 9 = .ok (.imul, 1) := by decide +kernel
theorem dX4_isGhost_10 : decode cX4_isGhost 10 = .ok (.iadd, 1) := by decide +kernel
theorem dX4_isGhost_11 : decode cX4_isGhost 11 = .ok (.istore 4, 2) := by decide +kernel
theorem dX4_isGhost_13 : decode cX4_isGhost 13 = .ok (.aload_n 0, 1) := by decide +kernel
theorem dX4_isGhost_14 : decode cX4_isGhost 14 = .ok (.iload_n 1, 1) := by decide +kernel
theorem dX4_isGhost_15 : decode cX4_isGhost 15 = .ok (.iload_n 3, 1) := by decide +kernel
theorem dX4_isGhost_16 : decode cX4_isGhost 16 = .ok (.iconst 0, 1) := by decide +kernel
theorem dX4_isGhost_17 : decode cX4_isGhost 17 = .ok (.invokevirtual 73, 3) := by decide +kernel
theorem dX4_isGhost_20 : decode cX4_isGhost 20 = .ok (.iconst 1, 1) := by decide +kernel
theorem dX4_isGhost_21 : decode cX4_isGhost 21 = .ok (.if_icmp .ne 43, 3) := by decide +kernel
theorem dX4_isGhost_24 : decode cX4_isGhost 24 = .ok (.aload_n 0, 1) := by decide +kernel
theorem dX4_isGhost_25 : decode cX4_isGhost 25 = .ok (.getfield 7, 3) := by decide +kernel
theorem dX4_isGhost_28 : decode cX4_isGhost 28 = .ok (.iload 4, 2) := by decide +kernel
theorem dX4_isGhost_30 : decode cX4_isGhost 30 = .ok (.iaload, 1) := by decide +kernel
theorem dX4_isGhost_31 : decode cX4_isGhost 31 = .ok (.aload_n 0, 1) := by decide +kernel
theorem dX4_isGhost_32 : decode cX4_isGhost 32 = .ok (.getfield 7, 3) := by decide +kernel
theorem dX4_isGhost_35 : decode cX4_isGhost 35 = .ok (.iload 4, 2) := by decide +kernel
theorem dX4_isGhost_37 : decode cX4_isGhost 37 = .ok (.iconst 1, 1) := by decide +kernel
theorem dX4_isGhost_38 : decode cX4_isGhost 38 = .ok (.iadd, 1) := by decide +kernel
theorem dX4_isGhost_39 : decode cX4_isGhost 39 = .ok (.iaload, 1) := by decide +kernel
theorem dX4_isGhost_40 : decode cX4_isGhost 40 = .ok (.aload_n 0, 1) := by decide +kernel
theorem dX4_isGhost_41 : decode cX4_isGhost 41 = .ok (.iload_n 1, 1) := by decide +kernel
theorem dX4_isGhost_42 : decode cX4_isGhost 42 = .ok (.iload_n 3, 1) := by decide +kernel
theorem dX4_isGhost_43 : decode cX4_isGhost 43 = .ok (.iconst 1, 1) := by decide +kernel
theorem dX4_isGhost_44 : decode cX4_isGhost 44 = .ok (.invokevirtual 73, 3) := by decide +kernel
theorem dX4_isGhost_47 : decode cX4_isGhost 47 = .ok (.aload_n 0, 1) := by decide +kernel
theorem dX4_isGhost_48 : decode cX4_isGhost 48 = .ok (.iload_n 1, 1) := by decide +kernel
theorem dX4_isGhost_49 : decode cX4_isGhost 49 = .ok (.iload_n 3, 1) := by decide +kernel
theorem dX4_isGhost_50 : decode cX4_isGhost 50 = .ok (.iconst 2, 1) := by decide +kernel
theorem dX4_isGhost_51 : decode cX4_isGhost 51 = .ok (.invokevirtual 73, 3) := by decide +kernel
theorem dX4_isGhost_54 : decode cX4_isGhost 54 = .ok (.invokestatic 81, 3) := by decide +kernel
theorem dX4_isGhost_57 : decode cX4_isGhost 57 = .ok (.ifCond .eq 7, 3) := by decide +kernel
theorem dX4_isGhost_60 : decode cX4_isGhost 60 = .ok (.iconst 1, 1) := by decide +kernel
theorem dX4_isGhost_61 : decode cX4_isGhost 61 = .ok (.goto 4, 3) := by decide +kernel
theorem dX4_isGhost_64 : decode cX4_isGhost 64 = .ok (.iconst 0, 1) := by decide +kernel
theorem dX4_isGhost_65 : decode cX4_isGhost 65 = .ok (.ireturn, 1) := by decide +kernel
theorem dX4_passes_0 : decode cX4_passes 0 = .ok (.aload_n 0, 1) := by decide +kernel
theorem dX4_passes_1 : decode cX4_passes 1 = .ok (.iload_n 1, 1) := by decide +kernel
theorem dX4_passes_2 : decode cX4_passes 2 = .ok (.iload_n 2, 1) := by decide +kernel
theorem dX4_passes_3 : decode cX4_passes 3 = .ok (.iload_n 3, 1) := by decide +kernel
theorem dX4_passes_4 : decode cX4_passes 4 = .ok (.invokevirtual 85, 3) := by decide +kernel
theorem dX4_passes_7 : decode cX4_passes 7 = .ok (.ifCond .eq 13, 3) := by decide +kernel
theorem dX4_passes_10 : decode cX4_passes 10 = .ok (.aload_n 0, 1) := by decide +kernel
theorem dX4_passes_11 : decode cX4_passes 11 = .ok (.iload_n 1, 1) := by decide +kernel
theorem dX4_passes_12 : decode cX4_passes 12 = .ok (.iload_n 2, 1) := by decide +kernel
theorem dX4_passes_13 : decode cX4_passes 13 = .ok (.iload_n 3, 1) := by decide +kernel
theorem dX4_passes_14 : decode cX4_passes 14 = .ok (.invokevirtual 102, 3) := by decide +kernel
theorem dX4_passes_17 : decode cX4_passes 17 = .ok (.ifCond .ne 5, 3) := by decide +kernel
theorem dX4_passes_20 : decode cX4_passes 20 = .ok (.iconst 0, 1) := by decide +kernel
theorem dX4_passes_21 : decode cX4_passes 21 = .ok (.ireturn, 1) := by decide +kernel
theorem dX4_passes_22 : decode cX4_passes 22 = .ok (.aload_n 0, 1) := by decide +kernel
theorem dX4_passes_23 : decode cX4_passes 23 = .ok (.iload_n 1, 1) := by decide +kernel
theorem dX4_passes_24 : decode cX4_passes 24 = .ok (.iload_n 2, 1) := by decide +kernel
theorem dX4_passes_25 : decode cX4_passes 25 = .ok (.iload_n 3, 1) := by decide +kernel
theorem dX4_passes_26 : decode cX4_passes 26 = .ok (.invokevirtual 105, 3) := by decide +kernel
theorem dX4_passes_29 : decode cX4_passes 29 = .ok (.ifCond .eq 29, 3) := by decide +kernel
theorem dX4_passes_32 : decode cX4_passes 32 = .ok (.aload_n 0, 1) := by decide +kernel
theorem dX4_passes_33 : decode cX4_passes 33 = .ok (.getfield 7, 3) := by decide +kernel
theorem dX4_passes_36 : decode cX4_passes 36 = .ok (.iconst 5, 1) := by decide +kernel
theorem dX4_passes_37 : decode cX4_passes 37 = .ok (.iconst 4, 1) := by decide +kernel
theorem dX4_passes_38 : decode cX4_passes 38 = .ok (.iload_n 2, 1) := by decide +kernel
theorem dX4_passes_39 : decode cX4_passes 39 = .ok (.imul, 1) := by decide +kernel
theorem dX4_passes_40 : decode cX4_passes 40 = .ok (.iadd, 1) := by decide +kernel
theorem dX4_passes_41 : decode cX4_passes 41 = .ok (.iconst 2, 1) := by decide +kernel
theorem dX4_passes_42 : decode cX4_passes 42 = .ok (.iadd, 1) := by decide +kernel
theorem dX4_passes_43 : decode cX4_passes 43 = .ok (.dup2, 1) := by decide +kernel
theorem dX4_passes_44 : decode cX4_passes 44 = .ok (.iaload, 1) := by decide +kernel
theorem dX4_passes_45 : decode cX4_passes 45 = .ok (.iconst 1, 1) := by decide +kernel
theorem dX4_passes_46 : decode cX4_passes 46 = .ok (.iadd, 1) := by decide +kernel
theorem dX4_passes_47 : decode cX4_passes 47 = .ok (.iastore, 1) := by decide +kernel
theorem dX4_passes_48 : decode cX4_passes 48 = .ok (.aload_n 0, 1) := by decide +kernel
theorem dX4_passes_49 : decode cX4_passes 49 = .ok (.getfield 7, 3) := by decide +kernel
theorem dX4_passes_52 : decode cX4_passes 52 = .ok (.iconst 3, 1) := by decide +kernel
theorem dX4_passes_53 : decode cX4_passes 53 = .ok (.dup2, 1) := by decide +kernel
theorem dX4_passes_54 : decode cX4_passes 54 = .ok (.iaload, 1) := by decide +kernel
theorem dX4_passes_55 : decode cX4_passes 55 = .ok (.iconst 1, 1) := by decide +kernel
theorem dX4_passes_56 : decode cX4_passes 56 = .ok (.iadd, 1) := by decide +kernel
theorem dX4_passes_57 : decode cX4_passes 57 = .ok (.iastore, 1) := by decide +kernel
theorem dX4_passes_58 : decode cX4_passes 58 = .ok (.iconst 0, 1) := by decide +kernel
theorem dX4_passes_59 : decode cX4_passes 59 = .ok (.istore 4, 2) := by decide +kernel
theorem dX4_passes_61 : decode cX4_passes 61 = .ok (.iload 4, 2) := by decide +kernel
theorem dX4_passes_63 : decode cX4_passes 63 = .ok (.bipush 7, 2) := by decide +kernel
theorem dX4_passes_65 : decode cX4_passes 65 = .ok (.if_icmp .ge 30, 3) := by decide +kernel
theorem dX4_passes_68 : decode cX4_passes 68 = .ok (.aload_n 0, 1) := by decide +kernel
theorem dX4_passes_69 : decode cX4_passes 69 = .ok (.getfield 7, 3) := by decide +kernel
theorem dX4_passes_72 : decode cX4_passes 72 = .ok (.iload_n 2, 1) := by decide +kernel
theorem dX4_passes_73 : decode cX4_passes 73 = .ok (.iload_n 3, 1) := by decide +kernel
theorem dX4_passes_74 : decode cX4_passes 74 = .ok (.invokestatic 29, 3) := by decide +kernel
theorem dX4_passes_77 : decode cX4_passes 77 = .ok (.iload 4, 2) := by decide +kernel
theorem dX4_passes_79 : decode cX4_passes 79 = .ok (.iadd, 1) := by decide +kernel
theorem dX4_passes_80 : decode cX4_passes 80 = .ok (.aload_n 0, 1) := by decide +kernel
theorem dX4_passes_81 : decode cX4_passes 81 = .ok (.iload_n 1, 1) := by decide +kernel
theorem dX4_passes_82 : decode cX4_passes 82 = .ok (.iload_n 3, 1) := by decide +kernel
theorem dX4_passes_83 : decode cX4_passes 83 = .ok (.iload 4, 2) := by decide +kernel
theorem dX4_passes_85 : decode cX4_passes 85 = .ok (.invokevirtual 73, 3) := by decide +kernel
theorem dX4_passes_88 : decode cX4_passes 88 = .ok (.iastore, 1) := by decide +kernel
theorem dX4_passes_89 : decode cX4_passes 89 = .ok (.iinc 4 1, 3) := by decide +kernel
theorem dX4_passes_92 : decode cX4_passes 92 = .ok (.goto (-31), 3) := by decide +kernel
theorem dX4_passes_95 : decode cX4_passes 95 = .ok (.iconst 1, 1) := by decide +kernel
theorem dX4_passes_96 : decode cX4_passes 96 = .ok (.ireturn, 1) := by decide +kernel
theorem dX4_meets_0 : decode cX4_meets 0 = .ok (.aload_n 0, 1) := by decide +kernel
theorem dX4_meets_1 : decode cX4_meets 1 = .ok (.iload_n 1, 1) := by decide +kernel
theorem dX4_meets_2 : decode cX4_meets 2 = .ok (.iconst 1, 1) := by decide +kernel
theorem dX4_meets_3 : decode cX4_meets 3 = .ok (.invokevirtual 37, 3) := by decide +kernel
theorem dX4_meets_6 : decode cX4_meets 6 = .ok (.aload_n 0, 1) := by decide +kernel
theorem dX4_meets_7 : decode cX4_meets 7 = .ok (.iload_n 2, 1) := by decide +kernel
theorem dX4_meets_8 : decode cX4_meets 8 = .ok (.iconst 1, 1) := by decide +kernel
theorem dX4_meets_9 : decode cX4_meets 9 = .ok (.invokevirtual 37, 3) := by decide +kernel
theorem dX4_meets_12 : decode cX4_meets 12 = .ok (.if_icmp .le 12, 3) := by decide +kernel
theorem dX4_meets_15 : decode cX4_meets 15 = .ok (.aload_n 0, 1) := by decide +kernel
theorem dX4_meets_16 : decode cX4_meets 16 = .ok (.iload_n 1, 1) := by decide +kernel
theorem dX4_meets_17 : decode cX4_meets 17 = .ok (.iconst 1, 1) := by decide +kernel
theorem dX4_meets_18 : decode cX4_meets 18 = .ok (.invokevirtual 37, 3) := by decide +kernel
theorem dX4_meets_21 : decode cX4_meets 21 = .ok (.goto 9, 3) := by decide +kernel
theorem dX4_meets_24 : decode cX4_meets 24 = .ok (.aload_n 0, 1) := by decide +kernel
theorem dX4_meets_25 : decode cX4_meets 25 = .ok (.iload_n 2, 1) := by decide +kernel
theorem dX4_meets_26 : decode cX4_meets 26 = .ok (.iconst 1, 1) := by decide +kernel
theorem dX4_meets_27 : decode cX4_meets 27 = .ok (.invokevirtual 37, 3) := by decide +kernel
theorem dX4_meets_30 : decode cX4_meets 30 = .ok (.istore_n 3, 1) := by decide +kernel
theorem dX4_meets_31 : decode cX4_meets 31 = .ok (.aload_n 0, 1) := by decide +kernel
theorem dX4_meets_32 : decode cX4_meets 32 = .ok (.getfield 7, 3) := by decide +kernel
theorem dX4_meets_35 : decode cX4_meets 35 = .ok (.iconst 5, 1) := by decide +kernel
theorem dX4_meets_36 : decode cX4_meets 36 = .ok (.iconst 4, 1) := by decide +kernel
theorem dX4_meets_37 : decode cX4_meets 37 = .ok (.iload_n 1, 1) := by decide +kernel
theorem dX4_meets_38 : decode cX4_meets 38 = .ok (.imul, 1) := by decide +kernel
theorem dX4_meets_39 : decode cX4_meets 39 = .ok (.iadd, 1) := by decide +kernel
theorem dX4_meets_40 : decode cX4_meets 40 = .ok (.iconst 1, 1) := by decide +kernel
theorem dX4_meets_41 : decode cX4_meets 41 = .ok (.iadd, 1) := by decide +kernel
theorem dX4_meets_42 : decode cX4_meets 42 = .ok (.iload_n 3, 1) := by decide +kernel
theorem dX4_meets_43 : decode cX4_meets 43 = .ok (.iastore, 1) := by decide +kernel
theorem dX4_meets_44 : decode cX4_meets 44 = .ok (.aload_n 0, 1) := by decide +kernel
theorem dX4_meets_45 : decode cX4_meets 45 = .ok (.getfield 7, 3) := by decide +kernel
theorem dX4_meets_48 : decode cX4_meets 48 = .ok (.iconst 5, 1) := by decide +kernel
theorem dX4_meets_49 : decode cX4_meets 49 = .ok (.iconst 4, 1) := by decide +kernel
theorem dX4_meets_50 : decode cX4_meets 50 = .ok (.iload_n 2, 1) := by decide +kernel
theorem dX4_meets_51 : decode cX4_meets 51 = .ok (.imul, 1) := by decide +kernel
theorem dX4_meets_52 : decode cX4_meets 52 = .ok (.iadd, 1) := by decide +kernel
theorem dX4_meets_53 : decode cX4_meets 53 = .ok (.iconst 1, 1) := by decide +kernel
theorem dX4_meets_54 : decode cX4_meets 54 = .ok (.iadd, 1) := by decide +kernel
theorem dX4_meets_55 : decode cX4_meets 55 = .ok (.iload_n 3, 1) := by decide +kernel
theorem dX4_meets_56 : decode cX4_meets 56 = .ok (.iastore, 1) := by decide +kernel
theorem dX4_meets_57 : decode cX4_meets 57 = .ok (.iconst 0, 1) := by decide +kernel
theorem dX4_meets_58 : decode cX4_meets 58 = .ok (.istore 4, 2) := by decide +kernel
theorem dX4_meets_60 : decode cX4_meets 60 = .ok (.iconst 0, 1) := by decide +kernel
theorem dX4_meets_61 : decode cX4_meets 61 = .ok (.istore 5, 2) := by decide +kernel
theorem dX4_meets_63 : decode cX4_meets 63 = .ok (.iload 5, 2) := by decide +kernel
theorem dX4_meets_65 : decode cX4_meets 65 = .ok (.bipush 12, 2) := by decide +kernel
theorem dX4_meets_67 : decode cX4_meets 67 = .ok (.if_icmp .ge 137, 3) := by decide +kernel
theorem dX4_meets_70 : decode cX4_meets 70 = .ok (.aload_n 0, 1) := by decide +kernel
theorem dX4_meets_71 : decode cX4_meets 71 = .ok (.iload_n 1, 1) := by decide +kernel
theorem dX4_meets_72 : decode cX4_meets 72 = .ok (.iload_n 2, 1) := by decide +kernel
theorem dX4_meets_73 : decode cX4_meets 73 = .ok (.iload 5, 2) := by decide +kernel
theorem dX4_meets_75 : decode cX4_meets 75 = .ok (.invokevirtual 108, 3) := by decide +kernel
theorem dX4_meets_78 : decode cX4_meets 78 = .ok (.istore 6, 2) := by decide +kernel
theorem dX4_meets_80 : decode cX4_meets 80 = .ok (.iload 4, 2) := by decide +kernel
theorem dX4_meets_82 : decode cX4_meets 82 = .ok (.iload 6, 2) := by decide +kernel
theorem dX4_meets_84 : decode cX4_meets 84 = .ok (.ifCond .le 7, 3) := by decide +kernel
theorem dX4_meets_87 : decode cX4_meets 87 = .ok (.iconst 1, 1) := by decide +kernel
theorem dX4_meets_88 : decode cX4_meets 88 = .ok (.goto 11, 3) := by decide +kernel
theorem dX4_meets_91 : decode cX4_meets 91 = .ok (.aload_n 0, 1) := by decide +kernel
theorem dX4_meets_92 : decode cX4_meets 92 = .ok (.iload_n 2, 1) := by decide +kernel
theorem dX4_meets_93 : decode cX4_meets 93 = .ok (.iload_n 1, 1) := by decide +kernel
theorem dX4_meets_94 : decode cX4_meets 94 = .ok (.iload 5, 2) := by decide +kernel
theorem dX4_meets_96 : decode cX4_meets 96 = .ok (.invokevirtual 108, 3) := by decide +kernel
theorem dX4_meets_99 : decode cX4_meets 99 = .ok (.iadd, 1) := by decide +kernel
theorem dX4_meets_100 : decode cX4_meets 100 = .ok (.istore 4, 2) := by decide +kernel
theorem dX4_meets_102 : decode cX4_meets 102 = .ok (.aload_n 0, 1) := by decide +kernel
theorem dX4_meets_103 : decode cX4_meets 103 = .ok (.iload_n 1, 1) := by decide +kernel
theorem dX4_meets_104 : decode cX4_meets 104 = .ok (.iload 5, 2) := by decide +kernel
theorem dX4_meets_106 : decode cX4_meets 106 = .ok (.iconst 0, 1) := by decide +kernel
theorem dX4_meets_107 : decode cX4_meets 107 = .ok (.invokevirtual 73, 3) := by decide +kernel
theorem dX4_meets_110 : decode cX4_meets 110 = .ok (.iconst 2, 1) := by decide +kernel
theorem dX4_meets_111 : decode cX4_meets 111 = .ok (.if_icmp .ne 87, 3) := by decide +kernel
theorem dX4_meets_114 : decode cX4_meets 114 = .ok (.aload_n 0, 1) := by decide +kernel
theorem dX4_meets_115 : decode cX4_meets 115 = .ok (.iload_n 2, 1) := by decide +kernel
theorem dX4_meets_116 : decode cX4_meets 116 = .ok (.iload 5, 2) := by decide +kernel
theorem dX4_meets_118 : decode cX4_meets 118 = .ok (.iconst 0, 1) := by decide +kernel
theorem dX4_meets_119 : decode cX4_meets 119 = .ok (.invokevirtual 73, 3) := by decide +kernel
theorem dX4_meets_122 : decode cX4_meets 122 = .ok (.iconst 2, 1) := by decide +kernel
theorem dX4_meets_123 : decode cX4_meets 123 = .ok (.if_icmp .ne 75, 3) := by decide +kernel
theorem dX4_meets_126 : decode cX4_meets 126 = .ok (.aload_n 0, 1) := by decide +kernel
theorem dX4_meets_127 : decode cX4_meets 127 = .ok (.iload_n 1, 1) := by decide +kernel
theorem dX4_meets_128 : decode cX4_meets 128 = .ok (.iload_n 2, 1) := by decide +kernel
theorem dX4_meets_129 : decode cX4_meets 129 = .ok (.iload 5, 2) := by decide +kernel
theorem dX4_meets_131 : decode cX4_meets 131 = .ok (.invokevirtual 111, 3) := by decide +kernel
theorem dX4_meets_134 : decode cX4_meets 134 = .ok (.ifCond .eq 64, 3) := by decide +kernel
theorem dX4_meets_137 : decode cX4_meets 137 = .ok (.aload_n 0, 1) := by decide +kernel
theorem dX4_meets_138 : decode cX4_meets 138 = .ok (.iload_n 1, 1) := by decide +kernel
theorem dX4_meets_139 : decode cX4_meets 139 = .ok (.iload 5, 2) := by decide +kernel
theorem dX4_meets_141 : decode cX4_meets 141 = .ok (.bipush 6, 2) := by decide +kernel
theorem dX4_meets_143 : decode cX4_meets 143 = .ok (.invokevirtual 73, 3) := by decide +kernel
theorem dX4_meets_146 : decode cX4_meets 146 = .ok (.aload_n 0, 1) := by decide +kernel
theorem dX4_meets_147 : decode cX4_meets 147 = .ok (.iload_n 2, 1) := by decide +kernel
theorem dX4_meets_148 : decode cX4_meets 148 = .ok (.iload 5, 2) := by decide +kernel
theorem dX4_meets_150 : decode cX4_meets 150 = .ok (.bipush 6, 2) := by decide +kernel
theorem dX4_meets_152 : decode cX4_meets 152 = .ok (.invokevirtual 73, 3) := by decide +kernel
theorem dX4_meets_155 : decode cX4_meets 155 = .ok (.ior, 1) := by decide +kernel
theorem dX4_meets_156 : decode cX4_meets 156 = .ok (.iconst 1, 1) := by decide +kernel
theorem dX4_meets_157 : decode cX4_meets 157 = .ok (.iload_n 1, 1) := by decide +kernel
theorem dX4_meets_158 : decode cX4_meets 158 = .ok (.ishl, 1) := by decide +kernel
theorem dX4_meets_159 : decode cX4_meets 159 = .ok (.ior, 1) := by decide +kernel
theorem dX4_meets_160 : decode cX4_meets 160 = .ok (.iconst 1, 1) := by decide +kernel
theorem dX4_meets_161 : decode cX4_meets 161 = .ok (.iload_n 2, 1) := by decide +kernel
theorem dX4_meets_162 : decode cX4_meets 162 = .ok (.ishl, 1) := by decide +kernel
theorem dX4_meets_163 : decode cX4_meets 163 = .ok (.ior, 1) := by decide +kernel
theorem dX4_meets_164 : decode cX4_meets 164 = .ok (.istore 7, 2) := by decide +kernel
theorem dX4_meets_166 : decode cX4_meets 166 = .ok (.aload_n 0, 1) := by decide +kernel
theorem dX4_meets_167 : decode cX4_meets 167 = .ok (.getfield 7, 3) := by decide +kernel
theorem dX4_meets_170 : decode cX4_meets 170 = .ok (.iload_n 1, 1) := by decide +kernel
theorem dX4_meets_171 : decode cX4_meets 171 = .ok (.iload 5, 2) := by decide +kernel
theorem dX4_meets_173 : decode cX4_meets 173 = .ok (.invokestatic 29, 3) := by decide +kernel
theorem dX4_meets_176 : decode cX4_meets 176 = .ok (.bipush 6, 2) := by decide +kernel
theorem dX4_meets_178 : decode cX4_meets 178 = .ok (.iadd, 1) := by decide +kernel
theorem dX4_meets_179 : decode cX4_meets 179 = .ok (.iload 7, 2) := by decide +kernel
theorem dX4_meets_181 : decode cX4_meets 181 = .ok (.iastore, 1) := by decide +kernel
theorem dX4_meets_182 : decode cX4_meets 182 = .ok (.aload_n 0, 1) := by decide +kernel
theorem dX4_meets_183 : decode cX4_meets 183 = .ok (.getfield 7, 3) := by decide +kernel
theorem dX4_meets_186 : decode cX4_meets 186 = .ok (.iload_n 2, 1) := by decide +kernel
theorem dX4_meets_187 : decode cX4_meets 187 = .ok (.iload 5, 2) := by decide +kernel
theorem dX4_meets_189 : decode cX4_meets 189 = .ok (.invokestatic 29, 3) := by decide +kernel
theorem dX4_meets_192 : decode cX4_meets 192 = .ok (.bipush 6, 2) := by decide +kernel
theorem dX4_meets_194 : decode cX4_meets 194 = .ok (.iadd, 1) := by decide +kernel
theorem dX4_meets_195 : decode cX4_meets 195 = .ok (.iload 7, 2) := by decide +kernel
theorem dX4_meets_197 : decode cX4_meets 197 = .ok (.iastore, 1) := by decide +kernel
theorem dX4_meets_198 : decode cX4_meets 198 = .ok (.iinc 5 1, 3) := by decide +kernel
theorem dX4_meets_201 : decode cX4_meets 201 = .ok (.goto (-138), 3) := by decide +kernel
theorem dX4_meets_204 : decode cX4_meets 204 = .ok (.iload 4, 2) := by decide +kernel
theorem dX4_meets_206 : decode cX4_meets 206 = .ok (.ireturn, 1) := by decide +kernel
theorem dX4_meetsOne_0 : decode cX4_meetsOne 0 = .ok (.aload_n 0, 1) := by decide +kernel
theorem dX4_meetsOne_1 : decode cX4_meetsOne 1 = .ok (.iload_n 1, 1) := by decide +kernel
theorem dX4_meetsOne_2 : decode cX4_meetsOne 2 = .ok (.invokevirtual 53, 3) := by decide +kernel
theorem dX4_meetsOne_5 : decode cX4_meetsOne 5 = .ok (.ifCond .eq 16, 3) := by decide +kernel
theorem dX4_meetsOne_8 : decode cX4_meetsOne 8 = .ok (.aload_n 0, 1) := by decide +kernel
theorem dX4_meetsOne_9 : decode cX4_meetsOne 9 = .ok (.iload_n 2, 1) := by decide +kernel
theorem dX4_meetsOne_10 : decode cX4_meetsOne 10 = .ok (.invokevirtual 53, 3) := by decide +kernel
theorem dX4_meetsOne_13 : decode cX4_meetsOne 13 = .ok (.ifCond .eq 8, 3) := by decide +kernel
theorem dX4_meetsOne_16 : decode cX4_meetsOne 16 = .ok (.iload_n 1, 1) := by decide +kernel
theorem dX4_meetsOne_17 : decode cX4_meetsOne 17 = .ok (.iload_n 2, 1) := by decide +kernel
theorem dX4_meetsOne_18 : decode cX4_meetsOne 18 = .ok (.if_icmp .ne 6, 3) := by decide +kernel
theorem dX4_meetsOne_21 : decode cX4_meetsOne 21 = .ok (.ldc 40, 2) := by decide +kernel
theorem dX4_meetsOne_23 : decode cX4_meetsOne 23 = .ok (.ireturn, 1) := by decide +kernel
theorem dX4_meetsOne_24 : decode cX4_meetsOne 24 = .ok (.aload_n 0, 1) := by decide +kernel
theorem dX4_meetsOne_25 : decode cX4_meetsOne 25 = .ok (.iload_n 1, 1) := by decide +kernel
theorem dX4_meetsOne_26 : decode cX4_meetsOne 26 = .ok (.invokevirtual 57, 3) := by decide +kernel
theorem dX4_meetsOne_29 : decode cX4_meetsOne 29 = .ok (.ifCond .eq 20, 3) := by decide +kernel
theorem dX4_meetsOne_32 : decode cX4_meetsOne 32 = .ok (.aload_n 0, 1) := by decide +kernel
theorem dX4_meetsOne_33 : decode cX4_meetsOne 33 = .ok (.iload_n 2, 1) := by decide +kernel
theorem dX4_meetsOne_34 : decode cX4_meetsOne 34 = .ok (.invokevirtual 57, 3) := by decide +kernel
theorem dX4_meetsOne_37 : decode cX4_meetsOne 37 = .ok (.ifCond .eq 12, 3) := by decide +kernel
theorem dX4_meetsOne_40 : decode cX4_meetsOne 40 = .ok (.aload_n 0, 1) := by decide +kernel
theorem dX4_meetsOne_41 : decode cX4_meetsOne 41 = .ok (.iload_n 1, 1) := by decide +kernel
theorem dX4_meetsOne_42 : decode cX4_meetsOne 42 = .ok (.iload_n 2, 1) := by decide +kernel
theorem dX4_meetsOne_43 : decode cX4_meetsOne 43 = .ok (.invokevirtual 114, 3) := by decide +kernel
theorem dX4_meetsOne_46 : decode cX4_meetsOne 46 = .ok (.goto 5, 3) := by decide +kernel
theorem dX4_meetsOne_49 : decode cX4_meetsOne 49 = .ok (.ldc 60, 2) := by decide +kernel
theorem dX4_meetsOne_51 : decode cX4_meetsOne 51 = .ok (.ireturn, 1) := by decide +kernel
theorem dX4_meet_0 : decode cX4_meet 0 = .ok (.aload_n 0, 1) := by decide +kernel
theorem dX4_meet_1 : decode cX4_meet 1 = .ok (.invokevirtual 46, 3) := by decide +kernel
theorem dX4_meet_4 : decode cX4_meet 4 = .ok (.aload_n 0, 1) := by decide +kernel
theorem dX4_meet_5 : decode cX4_meet 5 = .ok (.aload_n 0, 1) := by decide +kernel
theorem dX4_meet_6 : decode cX4_meet 6 = .ok (.iload_n 1, 1) := by decide +kernel
theorem dX4_meet_7 : decode cX4_meet 7 = .ok (.iload_n 2, 1) := by decide +kernel
theorem dX4_meet_8 : decode cX4_meet 8 = .ok (.invokevirtual 117, 3) := by decide +kernel
theorem dX4_meet_11 : decode cX4_meet 11 = .ok (.invokevirtual 49, 3) := by decide +kernel
theorem dX4_meet_14 : decode cX4_meet 14 = .ok (.ireturn, 1) := by decide +kernel
theorem dX4_isDead_0 : decode cX4_isDead 0 = .ok (.aload_n 0, 1) := by decide +kernel
theorem dX4_isDead_1 : decode cX4_isDead 1 = .ok (.iload_n 1, 1) := by decide +kernel
theorem dX4_isDead_2 : decode cX4_isDead 2 = .ok (.iload_n 2, 1) := by decide +kernel
theorem dX4_isDead_3 : decode cX4_isDead 3 = .ok (.iconst 0, 1) := by decide +kernel
theorem dX4_isDead_4 : decode cX4_isDead 4 = .ok (.invokevirtual 73, 3) := by decide +kernel
theorem dX4_isDead_7 : decode cX4_isDead 7 = .ok (.iconst 1, 1) := by decide +kernel
theorem dX4_isDead_8 : decode cX4_isDead 8 = .ok (.if_icmp .ne 51, 3) := by decide +kernel
theorem dX4_isDead_11 : decode cX4_isDead 11 = .ok (.aload_n 0, 1) := by decide +kernel
theorem dX4_isDead_12 : decode cX4_isDead 12 = .ok (.getfield 7, 3) := by decide +kernel
theorem dX4_isDead_15 : decode cX4_isDead 15 = .ok (.bipush 33, 2) := by decide +kernel
theorem dX4_isDead_17 : decode cX4_isDead 17 = .ok (.iconst 2, 1) := by decide +kernel
theorem dX4_isDead_18 : decode cX4_isDead 18 = .ok (.iload_n 2, 1) := by decide +kernel
theorem dX4_isDead_19 : decode cX4_isDead 19 = .ok (.imul, 1) := by decide +kernel
theorem dX4_isDead_20 : decode cX4_isDead 20 = .ok (.iadd, 1) := by decide +kernel
theorem dX4_isDead_21 : decode cX4_isDead 21 = .ok (.iaload, 1) := by decide +kernel
theorem dX4_isDead_22 : decode cX4_isDead 22 = .ok (.aload_n 0, 1) := by decide +kernel
theorem dX4_isDead_23 : decode cX4_isDead 23 = .ok (.getfield 7, 3) := by decide +kernel
theorem dX4_isDead_26 : decode cX4_isDead 26 = .ok (.bipush 33, 2) := by decide +kernel
theorem dX4_isDead_28 : decode cX4_isDead 28 = .ok (.iconst 2, 1) := by decide +kernel
theorem dX4_isDead_29 : decode cX4_isDead 29 = .ok (.iload_n 2, 1) := by decide +kernel
theorem dX4_isDead_30 : decode cX4_isDead 30 = .ok (.imul, 1) := by decide +kernel
theorem dX4_isDead_31 : decode cX4_isDead 31 = .ok (.iadd, 1) := by decide +kernel
theorem dX4_isDead_32 : decode cX4_isDead 32 = .ok (.iconst 1, 1) := by decide +kernel
theorem dX4_isDead_33 : decode cX4_isDead 33 = .ok (.iadd, 1) := by decide +kernel
theorem dX4_isDead_34 : decode cX4_isDead 34 = .ok (.iaload, 1) := by decide +kernel
theorem dX4_isDead_35 : decode cX4_isDead 35 = .ok (.aload_n 0, 1) := by decide +kernel
theorem dX4_isDead_36 : decode cX4_isDead 36 = .ok (.iload_n 1, 1) := by decide +kernel
theorem dX4_isDead_37 : decode cX4_isDead 37 = .ok (.iload_n 2, 1) := by decide +kernel
theorem dX4_isDead_38 : decode cX4_isDead 38 = .ok (.iconst 1, 1) := by decide +kernel
theorem dX4_isDead_39 : decode cX4_isDead 39 = .ok (.invokevirtual 73, 3) := by decide +kernel
theorem dX4_isDead_42 : decode cX4_isDead 42 = .ok (.aload_n 0, 1) := by decide +kernel
theorem dX4_isDead_43 : decode cX4_isDead 43 = .ok (.iload_n 1, 1) := by decide +kernel
theorem dX4_isDead_44 : decode cX4_isDead 44 = .ok (.iload_n 2, 1) := by decide +kernel
theorem dX4_isDead_45 : decode cX4_isDead 45 = .ok (.iconst 2, 1) := by decide +kernel
theorem dX4_isDead_46 : decode cX4_isDead 46 = .ok (.invokevirtual 73, 3) := by decide +kernel
theorem dX4_isDead_49 : decode cX4_isDead 49 = .ok (.invokestatic 81, 3) := by decide +kernel
theorem dX4_isDead_52 : decode cX4_isDead 52 = .ok (.ifCond .eq 7, 3) := by decide +kernel
theorem dX4_isDead_55 : decode cX4_isDead 55 = .ok (.iconst 1, 1) := by decide +kernel
theorem dX4_isDead_56 : decode cX4_isDead 56 = .ok (.goto 4, 3) := by decide +kernel
theorem dX4_isDead_59 : decode cX4_isDead 59 = .ok (.iconst 0, 1) := by decide +kernel
theorem dX4_isDead_60 : decode cX4_isDead 60 = .ok (.ireturn, 1) := by decide +kernel
theorem dX4_entryOf_0 : decode cX4_entryOf 0 = .ok (.aload_n 0, 1) := by decide +kernel
theorem dX4_entryOf_1 : decode cX4_entryOf 1 = .ok (.iload_n 1, 1) := by decide +kernel
theorem dX4_entryOf_2 : decode cX4_entryOf 2 = .ok (.invokevirtual 53, 3) := by decide +kernel
theorem dX4_entryOf_5 : decode cX4_entryOf 5 = .ok (.ifCond .eq 20, 3) := by decide +kernel
theorem dX4_entryOf_8 : decode cX4_entryOf 8 = .ok (.iload_n 2, 1) := by decide +kernel
theorem dX4_entryOf_9 : decode cX4_entryOf 9 = .ok (.invokestatic 88, 3) := by decide +kernel
theorem dX4_entryOf_12 : decode cX4_entryOf 12 = .ok (.ifCond .eq 13, 3) := by decide +kernel
theorem dX4_entryOf_15 : decode cX4_entryOf 15 = .ok (.iload_n 3, 1) := by decide +kernel
theorem dX4_entryOf_16 : decode cX4_entryOf 16 = .ok (.iconst 0, 1) := by decide +kernel
theorem dX4_entryOf_17 : decode cX4_entryOf 17 = .ok (.bipush 7, 2) := by decide +kernel
theorem dX4_entryOf_19 : decode cX4_entryOf 19 = .ok (.invokestatic 33, 3) := by decide +kernel
theorem dX4_entryOf_22 : decode cX4_entryOf 22 = .ok (.ifCond .ne 6, 3) := by decide +kernel
theorem dX4_entryOf_25 : decode cX4_entryOf 25 = .ok (.ldc 40, 2) := by decide +kernel
theorem dX4_entryOf_27 : decode cX4_entryOf 27 = .ok (.ireturn, 1) := by decide +kernel
theorem dX4_entryOf_28 : decode cX4_entryOf 28 = .ok (.aload_n 0, 1) := by decide +kernel
theorem dX4_entryOf_29 : decode cX4_entryOf 29 = .ok (.iload_n 1, 1) := by decide +kernel
theorem dX4_entryOf_30 : decode cX4_entryOf 30 = .ok (.iload_n 2, 1) := by decide +kernel
theorem dX4_entryOf_31 : decode cX4_entryOf 31 = .ok (.iconst 0, 1) := by decide +kernel
theorem dX4_entryOf_32 : decode cX4_entryOf 32 = .ok (.invokevirtual 73, 3) := by decide +kernel
theorem dX4_entryOf_35 : decode cX4_entryOf 35 = .ok (.istore 4, 2) := by decide +kernel
theorem dX4_entryOf_37 : decode cX4_entryOf 37 = .ok (.iload_n 3, 1) := by decide +kernel
theorem dX4_entryOf_38 : decode cX4_entryOf 38 = .ok (.iconst 3, 1) := by decide +kernel
theorem dX4_entryOf_39 : decode cX4_entryOf 39 = .ok (.if_icmp .ge 7, 3) := by decide +kernel
theorem dX4_entryOf_42 : decode cX4_entryOf 42 = .ok (.iconst 0, 1) := by decide +kernel
theorem dX4_entryOf_43 : decode cX4_entryOf 43 = .ok (.goto 19, 3) := by decide +kernel
theorem dX4_entryOf_46 : decode cX4_entryOf 46 = .ok (.iload_n 3, 1) := by decide +kernel
theorem dX4_entryOf_47 : decode cX4_entryOf 47 = .ok (.iconst 5, 1) := by decide +kernel
theorem dX4_entryOf_48 : decode cX4_entryOf 48 = .ok (.if_icmp .eq 9, 3) := by decide +kernel
theorem dX4_entryOf_51 : decode cX4_entryOf 51 = .ok (.iload_n 3, 1) := by decide +kernel
theorem dX4_entryOf_52 : decode cX4_entryOf 52 = .ok (.bipush 6, 2) := by decide +kernel
theorem dX4_entryOf_54 : decode cX4_entryOf 54 = .ok (.if_icmp .ne 7, 3) := by decide +kernel
theorem dX4_entryOf_57 : decode cX4_entryOf 57 = .ok (.iconst 2, 1) := by decide +kernel
theorem dX4_entryOf_58 : decode cX4_entryOf 58 = .ok (.goto 4, 3) := by decide +kernel
theorem dX4_entryOf_61 : decode cX4_entryOf 61 = .ok (.iconst 1, 1) := by decide +kernel
theorem dX4_entryOf_62 : decode cX4_entryOf 62 = .ok (.istore 5, 2) := by decide +kernel
theorem dX4_entryOf_64 : decode cX4_entryOf 64 = .ok (.iload 4, 2) := by decide +kernel
theorem dX4_entryOf_66 : decode cX4_entryOf 66 = .ok (.ifCond .eq 15, 3) := by decide +kernel
theorem dX4_entryOf_69 : decode cX4_entryOf 69 = .ok (.iload 5, 2) := by decide +kernel
theorem dX4_entryOf_71 : decode cX4_entryOf 71 = .ok (.ifCond .le 13, 3) := by decide +kernel
theorem dX4_entryOf_74 : decode cX4_entryOf 74 = .ok (.iload 4, 2) := by decide +kernel
theorem dX4_entryOf_76 : decode cX4_entryOf 76 = .ok (.iload 5, 2) := by decide +kernel
theorem dX4_entryOf_78 : decode cX4_entryOf 78 = .ok (.if_icmp .eq 6, 3) := by decide +kernel
theorem dX4_entryOf_81 : decode cX4_entryOf 81 = .ok (.ldc 80, 2) := by decide +kernel
theorem dX4_entryOf_83 : decode cX4_entryOf 83 = .ok (.ireturn, 1) := by decide +kernel
theorem dX4_entryOf_84 : decode cX4_entryOf 84 = .ok (.iload_n 3, 1) := by decide +kernel
theorem dX4_entryOf_85 : decode cX4_entryOf 85 = .ok (.ifCond .ne 10, 3) := by decide +kernel
theorem dX4_entryOf_88 : decode cX4_entryOf 88 = .ok (.iload 4, 2) := by decide +kernel
theorem dX4_entryOf_90 : decode cX4_entryOf 90 = .ok (.iconst 1, 1) := by decide +kernel
theorem dX4_entryOf_91 : decode cX4_entryOf 91 = .ok (.isub, 1) := by decide +kernel
theorem dX4_entryOf_92 : decode cX4_entryOf 92 = .ok (.goto 33, 3) := by decide +kernel
theorem dX4_entryOf_95 : decode cX4_entryOf 95 = .ok (.iload_n 3, 1) := by decide +kernel
theorem dX4_entryOf_96 : decode cX4_entryOf 96 = .ok (.bipush 7, 2) := by decide +kernel
theorem dX4_entryOf_98 : decode cX4_entryOf 98 = .ok (.if_icmp .ne 20, 3) := by decide +kernel
theorem dX4_entryOf_101 : decode cX4_entryOf 101 = .ok (.aload_n 0, 1) := by decide +kernel
theorem dX4_entryOf_102 : decode cX4_entryOf 102 = .ok (.iload_n 1, 1) := by decide +kernel
theorem dX4_entryOf_103 : decode cX4_entryOf 103 = .ok (.iload_n 2, 1) := by decide +kernel
theorem dX4_entryOf_104 : decode cX4_entryOf 104 = .ok (.invokevirtual 120, 3) := by decide +kernel
theorem dX4_entryOf_107 : decode cX4_entryOf 107 = .ok (.ifCond .eq 7, 3) := by decide +kernel
theorem dX4_entryOf_110 : decode cX4_entryOf 110 = .ok (.iconst 1, 1) := by decide +kernel
theorem dX4_entryOf_111 : decode cX4_entryOf 111 = .ok (.goto 14, 3) := by decide +kernel
theorem dX4_entryOf_114 : decode cX4_entryOf 114 = .ok (.iconst 0, 1) := by decide +kernel
theorem dX4_entryOf_115 : decode cX4_entryOf 115 = .ok (.goto 10, 3) := by decide +kernel
theorem dX4_entryOf_118 : decode cX4_entryOf 118 = .ok (.aload_n 0, 1) := by decide +kernel
theorem dX4_entryOf_119 : decode cX4_entryOf 119 = .ok (.iload_n 1, 1) := by decide +kernel
theorem dX4_entryOf_120 : decode cX4_entryOf 120 = .ok (.iload_n 2, 1) := by decide +kernel
theorem dX4_entryOf_121 : decode cX4_entryOf 121 = .ok (.iload_n 3, 1) := by decide +kernel
theorem dX4_entryOf_122 : decode cX4_entryOf 122 = .ok (.invokevirtual 73, 3) := by decide +kernel
theorem dX4_entryOf_125 : decode cX4_entryOf 125 = .ok (.ireturn, 1) := by decide +kernel
theorem dX4_drops_0 : decode cX4_drops 0 = .ok (.aload_n 0, 1) := by decide +kernel
theorem dX4_drops_1 : decode cX4_drops 1 = .ok (.iload_n 1, 1) := by decide +kernel
theorem dX4_drops_2 : decode cX4_drops 2 = .ok (.iload_n 2, 1) := by decide +kernel
theorem dX4_drops_3 : decode cX4_drops 3 = .ok (.bipush 6, 2) := by decide +kernel
theorem dX4_drops_5 : decode cX4_drops 5 = .ok (.invokevirtual 73, 3) := by decide +kernel
theorem dX4_drops_8 : decode cX4_drops 8 = .ok (.iload_n 3, 1) := by decide +kernel
theorem dX4_drops_9 : decode cX4_drops 9 = .ok (.iand, 1) := by decide +kernel
theorem dX4_drops_10 : decode cX4_drops 10 = .ok (.iload_n 3, 1) := by decide +kernel
theorem dX4_drops_11 : decode cX4_drops 11 = .ok (.if_icmp .eq 26, 3) := by decide +kernel
theorem dX4_drops_14 : decode cX4_drops 14 = .ok (.aload_n 0, 1) := by decide +kernel
theorem dX4_drops_15 : decode cX4_drops 15 = .ok (.getfield 7, 3) := by decide +kernel
theorem dX4_drops_18 : decode cX4_drops 18 = .ok (.iconst 1, 1) := by decide +kernel
theorem dX4_drops_19 : decode cX4_drops 19 = .ok (.iaload, 1) := by decide +kernel
theorem dX4_drops_20 : decode cX4_drops 20 = .ok (.aload_n 0, 1) := by decide +kernel
theorem dX4_drops_21 : decode cX4_drops 21 = .ok (.iload_n 1, 1) := by decide +kernel
theorem dX4_drops_22 : decode cX4_drops 22 = .ok (.iload_n 2, 1) := by decide +kernel
theorem dX4_drops_23 : decode cX4_drops 23 = .ok (.iconst 5, 1) := by decide +kernel
theorem dX4_drops_24 : decode cX4_drops 24 = .ok (.invokevirtual 73, 3) := by decide +kernel
theorem dX4_drops_27 : decode cX4_drops 27 = .ok (.isub, 1) := by decide +kernel
theorem dX4_drops_28 : decode cX4_drops 28 = .ok (.aload_n 0, 1) := by decide +kernel
theorem dX4_drops_29 : decode cX4_drops 29 = .ok (.getfield 7, 3) := by decide +kernel
theorem dX4_drops_32 : decode cX4_drops 32 = .ok (.iconst 2, 1) := by decide +kernel
theorem dX4_drops_33 : decode cX4_drops 33 = .ok (.iaload, 1) := by decide +kernel
theorem dX4_drops_34 : decode cX4_drops 34 = .ok (.if_icmp .lt 7, 3) := by decide +kernel
theorem dX4_drops_37 : decode cX4_drops 37 = .ok (.iconst 1, 1) := by decide +kernel
theorem dX4_drops_38 : decode cX4_drops 38 = .ok (.goto 4, 3) := by decide +kernel
theorem dX4_drops_41 : decode cX4_drops 41 = .ok (.iconst 0, 1) := by decide +kernel
theorem dX4_drops_42 : decode cX4_drops 42 = .ok (.istore 4, 2) := by decide +kernel
theorem dX4_drops_44 : decode cX4_drops 44 = .ok (.aload_n 0, 1) := by decide +kernel
theorem dX4_drops_45 : decode cX4_drops 45 = .ok (.iload_n 1, 1) := by decide +kernel
theorem dX4_drops_46 : decode cX4_drops 46 = .ok (.invokevirtual 70, 3) := by decide +kernel
theorem dX4_drops_49 : decode cX4_drops 49 = .ok (.ifCond .ne 19, 3) := by decide +kernel
theorem dX4_drops_52 : decode cX4_drops 52 = .ok (.aload_n 0, 1) := by decide +kernel
theorem dX4_drops_53 : decode cX4_drops 53 = .ok (.iload_n 1, 1) := by decide +kernel
theorem dX4_drops_54 : decode cX4_drops 54 = .ok (.iload_n 2, 1) := by decide +kernel
theorem dX4_drops_55 : decode cX4_drops 55 = .ok (.iconst 0, 1) := by decide +kernel
theorem dX4_drops_56 : decode cX4_drops 56 = .ok (.invokevirtual 73, 3) := by decide +kernel
theorem dX4_drops_59 : decode cX4_drops 59 = .ok (.iconst 2, 1) := by decide +kernel
theorem dX4_drops_60 : decode cX4_drops 60 = .ok (.if_icmp .ne 8, 3) := by decide +kernel
theorem dX4_drops_63 : decode cX4_drops 63 = .ok (.iload 4, 2) := by decide +kernel
theorem dX4_drops_65 : decode cX4_drops 65 = .ok (.ifCond .ne 5, 3) := by decide +kernel
theorem dX4_drops_68 : decode cX4_drops 68 = .ok (.iconst 0, 1) := by decide +kernel
theorem dX4_drops_69 : decode cX4_drops 69 = .ok (.ireturn, 1) := by decide +kernel
theorem dX4_drops_70 : decode cX4_drops 70 = .ok (.bipush 57, 2) := by decide +kernel
theorem dX4_drops_72 : decode cX4_drops 72 = .ok (.bipush 24, 2) := by decide +kernel
theorem dX4_drops_74 : decode cX4_drops 74 = .ok (.iload_n 1, 1) := by decide +kernel
theorem dX4_drops_75 : decode cX4_drops 75 = .ok (.imul, 1) := by decide +kernel
theorem dX4_drops_76 : decode cX4_drops 76 = .ok (.iadd, 1) := by decide +kernel
theorem dX4_drops_77 : decode cX4_drops 77 = .ok (.iconst 2, 1) := by decide +kernel
theorem dX4_drops_78 : decode cX4_drops 78 = .ok (.iload_n 2, 1) := by decide +kernel
theorem dX4_drops_79 : decode cX4_drops 79 = .ok (.imul, 1) := by decide +kernel
theorem dX4_drops_80 : decode cX4_drops 80 = .ok (.iadd, 1) := by decide +kernel
theorem dX4_drops_81 : decode cX4_drops 81 = .ok (.istore 5, 2) := by decide +kernel
theorem dX4_drops_83 : decode cX4_drops 83 = .ok (.aload_n 0, 1) := by decide +kernel
theorem dX4_drops_84 : decode cX4_drops 84 = .ok (.iload_n 1, 1) := by decide +kernel
theorem dX4_drops_85 : decode cX4_drops 85 = .ok (.iload_n 2, 1) := by decide +kernel
theorem dX4_drops_86 : decode cX4_drops 86 = .ok (.iconst 1, 1) := by decide +kernel
theorem dX4_drops_87 : decode cX4_drops 87 = .ok (.invokevirtual 73, 3) := by decide +kernel
theorem dX4_drops_90 : decode cX4_drops 90 = .ok (.aload_n 0, 1) := by decide +kernel
theorem dX4_drops_91 : decode cX4_drops 91 = .ok (.iload_n 1, 1) := by decide +kernel
theorem dX4_drops_92 : decode cX4_drops 92 = .ok (.iload_n 2, 1) := by decide +kernel
theorem dX4_drops_93 : decode cX4_drops 93 = .ok (.iconst 2, 1) := by decide +kernel
theorem dX4_drops_94 : decode cX4_drops 94 = .ok (.invokevirtual 73, 3) := by decide +kernel
theorem dX4_drops_97 : decode cX4_drops 97 = .ok (.aload_n 0, 1) := by decide +kernel
theorem dX4_drops_98 : decode cX4_drops 98 = .ok (.getfield 7, 3) := by decide +kernel
theorem dX4_drops_101 : decode cX4_drops 101 = .ok (.iload 5, 2) := by decide +kernel
theorem dX4_drops_103 : decode cX4_drops 103 = .ok (.iaload, 1) := by decide +kernel
theorem dX4_drops_104 : decode cX4_drops 104 = .ok (.aload_n 0, 1) := by decide +kernel
theorem dX4_drops_105 : decode cX4_drops 105 = .ok (.getfield 7, 3) := by decide +kernel
theorem dX4_drops_108 : decode cX4_drops 108 = .ok (.iload 5, 2) := by decide +kernel
theorem dX4_drops_110 : decode cX4_drops 110 = .ok (.iconst 1, 1) := by decide +kernel
theorem dX4_drops_111 : decode cX4_drops 111 = .ok (.iadd, 1) := by decide +kernel
theorem dX4_drops_112 : decode cX4_drops 112 = .ok (.iaload, 1) := by decide +kernel
theorem dX4_drops_113 : decode cX4_drops 113 = .ok (.invokestatic 81, 3) := by decide +kernel
theorem dX4_drops_116 : decode cX4_drops 116 = .ok (.ifCond .eq 33, 3) := by decide +kernel
theorem dX4_drops_119 : decode cX4_drops 119 = .ok (.aload_n 0, 1) := by decide +kernel
theorem dX4_drops_120 : decode cX4_drops 120 = .ok (.getfield 7, 3) := by decide +kernel
theorem dX4_drops_123 : decode cX4_drops 123 = .ok (.iload 5, 2) := by decide +kernel
theorem dX4_drops_125 : decode cX4_drops 125 = .ok (.aload_n 0, 1) := by decide +kernel
theorem dX4_drops_126 : decode cX4_drops 126 = .ok (.iload_n 1, 1) := by decide +kernel
theorem dX4_drops_127 : decode cX4_drops 127 = .ok (.iload_n 2, 1) := by decide +kernel
theorem dX4_drops_128 : decode cX4_drops 128 = .ok (.iconst 1, 1) := by decide +kernel
theorem dX4_drops_129 : decode cX4_drops 129 = .ok (.invokevirtual 73, 3) := by decide +kernel
theorem dX4_drops_132 : decode cX4_drops 132 = .ok (.iastore, 1) := by decide +kernel
theorem dX4_drops_133 : decode cX4_drops 133 = .ok (.aload_n 0, 1) := by decide +kernel
theorem dX4_drops_134 : decode cX4_drops 134 = .ok (.getfield 7, 3) := by decide +kernel
theorem dX4_drops_137 : decode cX4_drops 137 = .ok (.iload 5, 2) := by decide +kernel
theorem dX4_drops_139 : decode cX4_drops 139 = .ok (.iconst 1, 1) := by decide +kernel
theorem dX4_drops_140 : decode cX4_drops 140 = .ok (.iadd, 1) := by decide +kernel
theorem dX4_drops_141 : decode cX4_drops 141 = .ok (.aload_n 0, 1) := by decide +kernel
theorem dX4_drops_142 : decode cX4_drops 142 = .ok (.iload_n 1, 1) := by decide +kernel
theorem dX4_drops_143 : decode cX4_drops 143 = .ok (.iload_n 2, 1) := by decide +kernel
theorem dX4_drops_144 : decode cX4_drops 144 = .ok (.iconst 2, 1) := by decide +kernel
theorem dX4_drops_145 : decode cX4_drops 145 = .ok (.invokevirtual 73, 3) := by decide +kernel
theorem dX4_drops_148 : decode cX4_drops 148 = .ok (.iastore, 1) := by decide +kernel
theorem dX4_drops_149 : decode cX4_drops 149 = .ok (.aload_n 0, 1) := by decide +kernel
theorem dX4_drops_150 : decode cX4_drops 150 = .ok (.getfield 7, 3) := by decide +kernel
theorem dX4_drops_153 : decode cX4_drops 153 = .ok (.iload_n 1, 1) := by decide +kernel
theorem dX4_drops_154 : decode cX4_drops 154 = .ok (.iload_n 2, 1) := by decide +kernel
theorem dX4_drops_155 : decode cX4_drops 155 = .ok (.invokestatic 29, 3) := by decide +kernel
theorem dX4_drops_158 : decode cX4_drops 158 = .ok (.iconst 0, 1) := by decide +kernel
theorem dX4_drops_159 : decode cX4_drops 159 = .ok (.iastore, 1) := by decide +kernel
theorem dX4_drops_160 : decode cX4_drops 160 = .ok (.iconst 1, 1) := by decide +kernel
theorem dX4_drops_161 : decode cX4_drops 161 = .ok (.ireturn, 1) := by decide +kernel
theorem dX4_tickOne_0 : decode cX4_tickOne 0 = .ok (.aload_n 0, 1) := by decide +kernel
theorem dX4_tickOne_1 : decode cX4_tickOne 1 = .ok (.getfield 7, 3) := by decide +kernel
theorem dX4_tickOne_4 : decode cX4_tickOne 4 = .ok (.iconst 1, 1) := by decide +kernel
theorem dX4_tickOne_5 : decode cX4_tickOne 5 = .ok (.dup2, 1) := by decide +kernel
theorem dX4_tickOne_6 : decode cX4_tickOne 6 = .ok (.iaload, 1) := by decide +kernel
theorem dX4_tickOne_7 : decode cX4_tickOne 7 = .ok (.iconst 1, 1) := by decide +kernel
theorem dX4_tickOne_8 : decode cX4_tickOne 8 = .ok (.iadd, 1) := by decide +kernel
theorem dX4_tickOne_9 : decode cX4_tickOne 9 = .ok (.iastore, 1) := by decide +kernel
theorem dX4_tickOne_10 : decode cX4_tickOne 10 = .ok (.iconst 0, 1) := by decide +kernel
theorem dX4_tickOne_11 : decode cX4_tickOne 11 = .ok (.istore_n 1, 1) := by decide +kernel
theorem dX4_tickOne_12 : decode cX4_tickOne 12 = .ok (.iconst 0, 1) := by decide +kernel
theorem dX4_tickOne_13 : decode cX4_tickOne 13 = .ok (.istore_n 2, 1) := by decide +kernel
theorem dX4_tickOne_14 : decode cX4_tickOne 14 = .ok (.iload_n 2, 1) := by decide +kernel
theorem dX4_tickOne_15 : decode cX4_tickOne 15 = .ok (.aload_n 0, 1) := by decide +kernel
theorem dX4_tickOne_16 : decode cX4_tickOne 16 = .ok (.getfield 7, 3) := by decide +kernel
theorem dX4_tickOne_19 : decode cX4_tickOne 19 = .ok (.iconst 0, 1) := by decide +kernel
theorem dX4_tickOne_20 : decode cX4_tickOne 20 = .ok (.iaload, 1) := by decide +kernel
theorem dX4_tickOne_21 : decode cX4_tickOne 21 = .ok (.if_icmp .ge 27, 3) := by decide +kernel
theorem dX4_tickOne_24 : decode cX4_tickOne 24 = .ok (.iload_n 1, 1) := by decide +kernel
theorem dX4_tickOne_25 : decode cX4_tickOne 25 = .ok (.aload_n 0, 1) := by decide +kernel
theorem dX4_tickOne_26 : decode cX4_tickOne 26 = .ok (.iload_n 2, 1) := by decide +kernel
theorem dX4_tickOne_27 : decode cX4_tickOne 27 = .ok (.invokevirtual 70, 3) := by decide +kernel
theorem dX4_tickOne_30 : decode cX4_tickOne 30 = .ok (.ifCond .eq 7, 3) := by decide +kernel
theorem dX4_tickOne_33 : decode cX4_tickOne 33 = .ok (.iconst 0, 1) := by decide +kernel
theorem dX4_tickOne_34 : decode cX4_tickOne 34 = .ok (.goto 6, 3) := by decide +kernel
theorem dX4_tickOne_37 : decode cX4_tickOne 37 = .ok (.iconst 1, 1) := by decide +kernel
theorem dX4_tickOne_38 : decode cX4_tickOne 38 = .ok (.iload_n 2, 1) := by decide +kernel
theorem dX4_tickOne_39 : decode cX4_tickOne 39 = .ok (.ishl, 1) := by decide +kernel
theorem dX4_tickOne_40 : decode cX4_tickOne 40 = .ok (.ior, 1) := by decide +kernel
theorem dX4_tickOne_41 : decode cX4_tickOne 41 = .ok (.istore_n 1, 1) := by decide +kernel
theorem dX4_tickOne_42 : decode cX4_tickOne 42 = .ok (.iinc 2 1, 3) := by decide +kernel
theorem dX4_tickOne_45 : decode cX4_tickOne 45 = .ok (.goto (-31), 3) := by decide +kernel
theorem dX4_tickOne_48 : decode cX4_tickOne 48 = .ok (.iconst 0, 1) := by decide +kernel
theorem dX4_tickOne_49 : decode cX4_tickOne 49 = .ok (.istore_n 2, 1) := by decide +kernel
theorem dX4_tickOne_50 : decode cX4_tickOne 50 = .ok (.iconst 0, 1) := by decide +kernel
theorem dX4_tickOne_51 : decode cX4_tickOne 51 = .ok (.istore_n 3, 1) := by decide +kernel
theorem dX4_tickOne_52 : decode cX4_tickOne 52 = .ok (.iload_n 3, 1) := by decide +kernel
theorem dX4_tickOne_53 : decode cX4_tickOne 53 = .ok (.aload_n 0, 1) := by decide +kernel
theorem dX4_tickOne_54 : decode cX4_tickOne 54 = .ok (.getfield 7, 3) := by decide +kernel
theorem dX4_tickOne_57 : decode cX4_tickOne 57 = .ok (.iconst 0, 1) := by decide +kernel
theorem dX4_tickOne_58 : decode cX4_tickOne 58 = .ok (.iaload, 1) := by decide +kernel
theorem dX4_tickOne_59 : decode cX4_tickOne 59 = .ok (.if_icmp .ge 36, 3) := by decide +kernel
theorem dX4_tickOne_62 : decode cX4_tickOne 62 = .ok (.iconst 0, 1) := by decide +kernel
theorem dX4_tickOne_63 : decode cX4_tickOne 63 = .ok (.istore 4, 2) := by decide +kernel
theorem dX4_tickOne_65 : decode cX4_tickOne 65 = .ok (.iload 4, 2) := by decide +kernel
theorem dX4_tickOne_67 : decode cX4_tickOne 67 = .ok (.bipush 12, 2) := by decide +kernel
theorem dX4_tickOne_69 : decode cX4_tickOne 69 = .ok (.if_icmp .ge 20, 3) := by decide +kernel
theorem dX4_tickOne_72 : decode cX4_tickOne 72 = .ok (.iload_n 2, 1) := by decide +kernel
theorem dX4_tickOne_73 : decode cX4_tickOne 73 = .ok (.aload_n 0, 1) := by decide +kernel
theorem dX4_tickOne_74 : decode cX4_tickOne 74 = .ok (.iload_n 3, 1) := by decide +kernel
theorem dX4_tickOne_75 : decode cX4_tickOne 75 = .ok (.iload 4, 2) := by decide +kernel
theorem dX4_tickOne_77 : decode cX4_tickOne 77 = .ok (.iload_n 1, 1) := by decide +kernel
theorem dX4_tickOne_78 : decode cX4_tickOne 78 = .ok (.invokevirtual 124, 3) := by decide +kernel
theorem dX4_tickOne_81 : decode cX4_tickOne 81 = .ok (.iadd, 1) := by decide +kernel
theorem dX4_tickOne_82 : decode cX4_tickOne 82 = .ok (.istore_n 2, 1) := by decide +kernel
theorem dX4_tickOne_83 : decode cX4_tickOne 83 = .ok (.iinc 4 1, 3) := by decide +kernel
theorem dX4_tickOne_86 : decode cX4_tickOne 86 = .ok (.goto (-21), 3) := by decide +kernel
theorem dX4_tickOne_89 : decode cX4_tickOne 89 = .ok (.iinc 3 1, 3) := by decide +kernel
theorem dX4_tickOne_92 : decode cX4_tickOne 92 = .ok (.goto (-40), 3) := by decide +kernel
theorem dX4_tickOne_95 : decode cX4_tickOne 95 = .ok (.iload_n 2, 1) := by decide +kernel
theorem dX4_tickOne_96 : decode cX4_tickOne 96 = .ok (.ireturn, 1) := by decide +kernel
theorem dX4_ticks_0 : decode cX4_ticks 0 = .ok (.iload_n 1, 1) := by decide +kernel
theorem dX4_ticks_1 : decode cX4_ticks 1 = .ok (.iconst 1, 1) := by decide +kernel
theorem dX4_ticks_2 : decode cX4_ticks 2 = .ok (.bipush 60, 2) := by decide +kernel
theorem dX4_ticks_4 : decode cX4_ticks 4 = .ok (.invokestatic 33, 3) := by decide +kernel
theorem dX4_ticks_7 : decode cX4_ticks 7 = .ok (.ifCond .ne 6, 3) := by decide +kernel
theorem dX4_ticks_10 : decode cX4_ticks 10 = .ok (.ldc 40, 2) := by decide +kernel
theorem dX4_ticks_12 : decode cX4_ticks 12 = .ok (.ireturn, 1) := by decide +kernel
theorem dX4_ticks_13 : decode cX4_ticks 13 = .ok (.aload_n 0, 1) := by decide +kernel
theorem dX4_ticks_14 : decode cX4_ticks 14 = .ok (.getfield 7, 3) := by decide +kernel
theorem dX4_ticks_17 : decode cX4_ticks 17 = .ok (.iconst 1, 1) := by decide +kernel
theorem dX4_ticks_18 : decode cX4_ticks 18 = .ok (.iaload, 1) := by decide +kernel
theorem dX4_ticks_19 : decode cX4_ticks 19 = .ok (.iload_n 1, 1) := by decide +kernel
theorem dX4_ticks_20 : decode cX4_ticks 20 = .ok (.iadd, 1) := by decide +kernel
theorem dX4_ticks_21 : decode cX4_ticks 21 = .ok (.ldc 127, 2) := by decide +kernel
theorem dX4_ticks_23 : decode cX4_ticks 23 = .ok (.if_icmp .le 6, 3) := by decide +kernel
theorem dX4_ticks_26 : decode cX4_ticks 26 = .ok (.ldc 45, 2) := by decide +kernel
theorem dX4_ticks_28 : decode cX4_ticks 28 = .ok (.ireturn, 1) := by decide +kernel
theorem dX4_ticks_29 : decode cX4_ticks 29 = .ok (.iconst 0, 1) := by decide +kernel
theorem dX4_ticks_30 : decode cX4_ticks 30 = .ok (.istore_n 2, 1) := by decide +kernel
theorem dX4_ticks_31 : decode cX4_ticks 31 = .ok (.iconst 0, 1) := by decide +kernel
theorem dX4_ticks_32 : decode cX4_ticks 32 = .ok (.istore_n 3, 1) := by decide +kernel
theorem dX4_ticks_33 : decode cX4_ticks 33 = .ok (.iload_n 3, 1) := by decide +kernel
theorem dX4_ticks_34 : decode cX4_ticks 34 = .ok (.iload_n 1, 1) := by decide +kernel
theorem dX4_ticks_35 : decode cX4_ticks 35 = .ok (.if_icmp .ge 16, 3) := by decide +kernel
theorem dX4_ticks_38 : decode cX4_ticks 38 = .ok (.iload_n 2, 1) := by decide +kernel
theorem dX4_ticks_39 : decode cX4_ticks 39 = .ok (.aload_n 0, 1) := by decide +kernel
theorem dX4_ticks_40 : decode cX4_ticks 40 = .ok (.invokevirtual 128, 3) := by decide +kernel
theorem dX4_ticks_43 : decode cX4_ticks 43 = .ok (.iadd, 1) := by decide +kernel
theorem dX4_ticks_44 : decode cX4_ticks 44 = .ok (.istore_n 2, 1) := by decide +kernel
theorem dX4_ticks_45 : decode cX4_ticks 45 = .ok (.iinc 3 1, 3) := by decide +kernel
theorem dX4_ticks_48 : decode cX4_ticks 48 = .ok (.goto (-15), 3) := by decide +kernel
theorem dX4_ticks_51 : decode cX4_ticks 51 = .ok (.iload_n 2, 1) := by decide +kernel
theorem dX4_ticks_52 : decode cX4_ticks 52 = .ok (.ireturn, 1) := by decide +kernel
theorem dX4_tick_0 : decode cX4_tick 0 = .ok (.aload_n 0, 1) := by decide +kernel
theorem dX4_tick_1 : decode cX4_tick 1 = .ok (.invokevirtual 46, 3) := by decide +kernel
theorem dX4_tick_4 : decode cX4_tick 4 = .ok (.aload_n 0, 1) := by decide +kernel
theorem dX4_tick_5 : decode cX4_tick 5 = .ok (.aload_n 0, 1) := by decide +kernel
theorem dX4_tick_6 : decode cX4_tick 6 = .ok (.iload_n 1, 1) := by decide +kernel
theorem dX4_tick_7 : decode cX4_tick 7 = .ok (.invokevirtual 132, 3) := by decide +kernel
theorem dX4_tick_10 : decode cX4_tick 10 = .ok (.invokevirtual 49, 3) := by decide +kernel
theorem dX4_tick_13 : decode cX4_tick 13 = .ok (.ireturn, 1) := by decide +kernel
theorem dX4_newest_0 : decode cX4_newest 0 = .ok (.iload_n 1, 1) := by decide +kernel
theorem dX4_newest_1 : decode cX4_newest 1 = .ok (.invokestatic 88, 3) := by decide +kernel
theorem dX4_newest_4 : decode cX4_newest 4 = .ok (.ifCond .ne 6, 3) := by decide +kernel
theorem dX4_newest_7 : decode cX4_newest 7 = .ok (.ldc 40, 2) := by decide +kernel
theorem dX4_newest_9 : decode cX4_newest 9 = .ok (.ireturn, 1) := by decide +kernel
theorem dX4_newest_10 : decode cX4_newest 10 = .ok (.iconst (-1), 1) := by decide +kernel
theorem dX4_newest_11 : decode cX4_newest 11 = .ok (.istore_n 2, 1) := by decide +kernel
theorem dX4_newest_12 : decode cX4_newest 12 = .ok (.iconst 0, 1) := by decide +kernel
theorem dX4_newest_13 : decode cX4_newest 13 = .ok (.istore_n 3, 1) := by decide +kernel
theorem dX4_newest_14 : decode cX4_newest 14 = .ok (.iload_n 3, 1) := by decide +kernel
theorem dX4_newest_15 : decode cX4_newest 15 = .ok (.aload_n 0, 1) := by decide +kernel
theorem dX4_newest_16 : decode cX4_newest 16 = .ok (.getfield 7, 3) := by decide +kernel
theorem dX4_newest_19 : decode cX4_newest 19 = .ok (.iconst 0, 1) := by decide +kernel
theorem dX4_newest_20 : decode cX4_newest 20 = .ok (.iaload, 1) := by decide +kernel
theorem dX4_newest_21 : decode cX4_newest 21 = .ok (.if_icmp .ge 39, 3) := by decide +kernel
theorem dX4_newest_24 : decode cX4_newest 24 = .ok (.aload_n 0, 1) := by decide +kernel
theorem dX4_newest_25 : decode cX4_newest 25 = .ok (.iload_n 3, 1) := by decide +kernel
theorem dX4_newest_26 : decode cX4_newest 26 = .ok (.iload_n 1, 1) := by decide +kernel
theorem dX4_newest_27 : decode cX4_newest 27 = .ok (.iconst 0, 1) := by decide +kernel
theorem dX4_newest_28 : decode cX4_newest 28 = .ok (.invokevirtual 73, 3) := by decide +kernel
theorem dX4_newest_31 : decode cX4_newest 31 = .ok (.ifCond .eq 21, 3) := by decide +kernel
theorem dX4_newest_34 : decode cX4_newest 34 = .ok (.iload_n 2, 1) := by decide +kernel
theorem dX4_newest_35 : decode cX4_newest 35 = .ok (.ifCond .lt 13, 3) := by decide +kernel
theorem dX4_newest_38 : decode cX4_newest 38 = .ok (.aload_n 0, 1) := by decide +kernel
theorem dX4_newest_39 : decode cX4_newest 39 = .ok (.iload_n 3, 1) := by decide +kernel
theorem dX4_newest_40 : decode cX4_newest 40 = .ok (.iload_n 2, 1) := by decide +kernel
theorem dX4_newest_41 : decode cX4_newest 41 = .ok (.iload_n 1, 1) := by decide +kernel
theorem dX4_newest_42 : decode cX4_newest 42 = .ok (.invokevirtual 85, 3) := by decide +kernel
theorem dX4_newest_45 : decode cX4_newest 45 = .ok (.ifCond .eq 7, 3) := by decide +kernel
theorem dX4_newest_48 : decode cX4_newest 48 = .ok (.iload_n 3, 1) := by decide +kernel
theorem dX4_newest_49 : decode cX4_newest 49 = .ok (.goto 4, 3) := by decide +kernel
theorem dX4_newest_52 : decode cX4_newest 52 = .ok (.iload_n 2, 1) := by decide +kernel
theorem dX4_newest_53 : decode cX4_newest 53 = .ok (.istore_n 2, 1) := by decide +kernel
theorem dX4_newest_54 : decode cX4_newest 54 = .ok (.iinc 3 1, 3) := by decide +kernel
theorem dX4_newest_57 : decode cX4_newest 57 = .ok (.goto (-43), 3) := by decide +kernel
theorem dX4_newest_60 : decode cX4_newest 60 = .ok (.iconst 0, 1) := by decide +kernel
theorem dX4_newest_61 : decode cX4_newest 61 = .ok (.istore_n 3, 1) := by decide +kernel
theorem dX4_newest_62 : decode cX4_newest 62 = .ok (.iconst 0, 1) := by decide +kernel
theorem dX4_newest_63 : decode cX4_newest 63 = .ok (.istore 4, 2) := by decide +kernel
theorem dX4_newest_65 : decode cX4_newest 65 = .ok (.iload 4, 2) := by decide +kernel
theorem dX4_newest_67 : decode cX4_newest 67 = .ok (.aload_n 0, 1) := by decide +kernel
theorem dX4_newest_68 : decode cX4_newest 68 = .ok (.getfield 7, 3) := by decide +kernel
theorem dX4_newest_71 : decode cX4_newest 71 = .ok (.iconst 0, 1) := by decide +kernel
theorem dX4_newest_72 : decode cX4_newest 72 = .ok (.iaload, 1) := by decide +kernel
theorem dX4_newest_73 : decode cX4_newest 73 = .ok (.if_icmp .ge 35, 3) := by decide +kernel
theorem dX4_newest_76 : decode cX4_newest 76 = .ok (.iload_n 2, 1) := by decide +kernel
theorem dX4_newest_77 : decode cX4_newest 77 = .ok (.ifCond .lt 31, 3) := by decide +kernel
theorem dX4_newest_80 : decode cX4_newest 80 = .ok (.iload_n 3, 1) := by decide +kernel
theorem dX4_newest_81 : decode cX4_newest 81 = .ok (.aload_n 0, 1) := by decide +kernel
theorem dX4_newest_82 : decode cX4_newest 82 = .ok (.iload 4, 2) := by decide +kernel
theorem dX4_newest_84 : decode cX4_newest 84 = .ok (.iload_n 2, 1) := by decide +kernel
theorem dX4_newest_85 : decode cX4_newest 85 = .ok (.iload_n 1, 1) := by decide +kernel
theorem dX4_newest_86 : decode cX4_newest 86 = .ok (.invokevirtual 111, 3) := by decide +kernel
theorem dX4_newest_89 : decode cX4_newest 89 = .ok (.ifCond .eq 10, 3) := by decide +kernel
theorem dX4_newest_92 : decode cX4_newest 92 = .ok (.iconst 1, 1) := by decide +kernel
theorem dX4_newest_93 : decode cX4_newest 93 = .ok (.iload 4, 2) := by decide +kernel
theorem dX4_newest_95 : decode cX4_newest 95 = .ok (.ishl, 1) := by decide +kernel
theorem dX4_newest_96 : decode cX4_newest 96 = .ok (.goto 4, 3) := by decide +kernel
theorem dX4_newest_99 : decode cX4_newest 99 = .ok (.iconst 0, 1) := by decide +kernel
theorem dX4_newest_100 : decode cX4_newest 100 = .ok (.ior, 1) := by decide +kernel
theorem dX4_newest_101 : decode cX4_newest 101 = .ok (.istore_n 3, 1) := by decide +kernel
theorem dX4_newest_102 : decode cX4_newest 102 = .ok (.iinc 4 1, 3) := by decide +kernel
theorem dX4_newest_105 : decode cX4_newest 105 = .ok (.goto (-40), 3) := by decide +kernel
theorem dX4_newest_108 : decode cX4_newest 108 = .ok (.iload_n 2, 1) := by decide +kernel
theorem dX4_newest_109 : decode cX4_newest 109 = .ok (.ifCond .ge 8, 3) := by decide +kernel
theorem dX4_newest_112 : decode cX4_newest 112 = .ok (.ldc 80, 2) := by decide +kernel
theorem dX4_newest_114 : decode cX4_newest 114 = .ok (.goto 4, 3) := by decide +kernel
theorem dX4_newest_117 : decode cX4_newest 117 = .ok (.iload_n 3, 1) := by decide +kernel
theorem dX4_newest_118 : decode cX4_newest 118 = .ok (.ireturn, 1) := by decide +kernel
theorem dX4_unlike_0 : decode cX4_unlike 0 = .ok (.aload_n 0, 1) := by decide +kernel
theorem dX4_unlike_1 : decode cX4_unlike 1 = .ok (.iload_n 1, 1) := by decide +kernel
theorem dX4_unlike_2 : decode cX4_unlike 2 = .ok (.invokevirtual 53, 3) := by decide +kernel
theorem dX4_unlike_5 : decode cX4_unlike 5 = .ok (.ifCond .eq 11, 3) := by decide +kernel
theorem dX4_unlike_8 : decode cX4_unlike 8 = .ok (.aload_n 0, 1) := by decide +kernel
theorem dX4_unlike_9 : decode cX4_unlike 9 = .ok (.iload_n 2, 1) := by decide +kernel
theorem dX4_unlike_10 : decode cX4_unlike 10 = .ok (.invokevirtual 53, 3) := by decide +kernel
theorem dX4_unlike_13 : decode cX4_unlike 13 = .ok (.ifCond .ne 6, 3) := by decide +kernel
theorem dX4_unlike_16 : decode cX4_unlike 16 = .ok (.ldc 40, 2) := by decide +kernel
theorem dX4_unlike_18 : decode cX4_unlike 18 = .ok (.ireturn, 1) := by decide +kernel
theorem dX4_unlike_19 : decode cX4_unlike 19 = .ok (.iconst 0, 1) := by decide +kernel
theorem dX4_unlike_20 : decode cX4_unlike 20 = .ok (.istore_n 3, 1) := by decide +kernel
theorem dX4_unlike_21 : decode cX4_unlike 21 = .ok (.iconst 0, 1) := by decide +kernel
theorem dX4_unlike_22 : decode cX4_unlike 22 = .ok (.istore 4, 2) := by decide +kernel
theorem dX4_unlike_24 : decode cX4_unlike 24 = .ok (.iload 4, 2) := by decide +kernel
theorem dX4_unlike_26 : decode cX4_unlike 26 = .ok (.bipush 12, 2) := by decide +kernel
theorem dX4_unlike_28 : decode cX4_unlike 28 = .ok (.if_icmp .ge 31, 3) := by decide +kernel
theorem dX4_unlike_31 : decode cX4_unlike 31 = .ok (.iload_n 3, 1) := by decide +kernel
theorem dX4_unlike_32 : decode cX4_unlike 32 = .ok (.aload_n 0, 1) := by decide +kernel
theorem dX4_unlike_33 : decode cX4_unlike 33 = .ok (.iload_n 1, 1) := by decide +kernel
theorem dX4_unlike_34 : decode cX4_unlike 34 = .ok (.iload_n 2, 1) := by decide +kernel
theorem dX4_unlike_35 : decode cX4_unlike 35 = .ok (.iload 4, 2) := by decide +kernel
theorem dX4_unlike_37 : decode cX4_unlike 37 = .ok (.invokevirtual 111, 3) := by decide +kernel
theorem dX4_unlike_40 : decode cX4_unlike 40 = .ok (.ifCond .eq 7, 3) := by decide +kernel
theorem dX4_unlike_43 : decode cX4_unlike 43 = .ok (.iconst 0, 1) := by decide +kernel
theorem dX4_unlike_44 : decode cX4_unlike 44 = .ok (.goto 7, 3) := by decide +kernel
theorem dX4_unlike_47 : decode cX4_unlike 47 = .ok (.iconst 1, 1) := by decide +kernel
theorem dX4_unlike_48 : decode cX4_unlike 48 = .ok (.iload 4, 2) := by decide +kernel
theorem dX4_unlike_50 : decode cX4_unlike 50 = .ok (.ishl, 1) := by decide +kernel
theorem dX4_unlike_51 : decode cX4_unlike 51 = .ok (.ior, 1) := by decide +kernel
theorem dX4_unlike_52 : decode cX4_unlike 52 = .ok (.istore_n 3, 1) := by decide +kernel
theorem dX4_unlike_53 : decode cX4_unlike 53 = .ok (.iinc 4 1, 3) := by decide +kernel
theorem dX4_unlike_56 : decode cX4_unlike 56 = .ok (.goto (-32), 3) := by decide +kernel
theorem dX4_unlike_59 : decode cX4_unlike 59 = .ok (.iload_n 3, 1) := by decide +kernel
theorem dX4_unlike_60 : decode cX4_unlike 60 = .ok (.ireturn, 1) := by decide +kernel
theorem dX4_dead_0 : decode cX4_dead 0 = .ok (.aload_n 0, 1) := by decide +kernel
theorem dX4_dead_1 : decode cX4_dead 1 = .ok (.iload_n 1, 1) := by decide +kernel
theorem dX4_dead_2 : decode cX4_dead 2 = .ok (.invokevirtual 53, 3) := by decide +kernel
theorem dX4_dead_5 : decode cX4_dead 5 = .ok (.ifCond .ne 6, 3) := by decide +kernel
theorem dX4_dead_8 : decode cX4_dead 8 = .ok (.ldc 40, 2) := by decide +kernel
theorem dX4_dead_10 : decode cX4_dead 10 = .ok (.ireturn, 1) := by decide +kernel
theorem dX4_dead_11 : decode cX4_dead 11 = .ok (.iconst 0, 1) := by decide +kernel
theorem dX4_dead_12 : decode cX4_dead 12 = .ok (.istore_n 2, 1) := by decide +kernel
theorem dX4_dead_13 : decode cX4_dead 13 = .ok (.iconst 0, 1) := by decide +kernel
theorem dX4_dead_14 : decode cX4_dead 14 = .ok (.istore_n 3, 1) := by decide +kernel
theorem dX4_dead_15 : decode cX4_dead 15 = .ok (.iload_n 3, 1) := by decide +kernel
theorem dX4_dead_16 : decode cX4_dead 16 = .ok (.bipush 12, 2) := by decide +kernel
theorem dX4_dead_18 : decode cX4_dead 18 = .ok (.if_icmp .ge 28, 3) := by decide +kernel
theorem dX4_dead_21 : decode cX4_dead 21 = .ok (.iload_n 2, 1) := by decide +kernel
theorem dX4_dead_22 : decode cX4_dead 22 = .ok (.aload_n 0, 1) := by decide +kernel
theorem dX4_dead_23 : decode cX4_dead 23 = .ok (.iload_n 1, 1) := by decide +kernel
theorem dX4_dead_24 : decode cX4_dead 24 = .ok (.iload_n 3, 1) := by decide +kernel
theorem dX4_dead_25 : decode cX4_dead 25 = .ok (.invokevirtual 120, 3) := by decide +kernel
theorem dX4_dead_28 : decode cX4_dead 28 = .ok (.ifCond .eq 9, 3) := by decide +kernel
theorem dX4_dead_31 : decode cX4_dead 31 = .ok (.iconst 1, 1) := by decide +kernel
theorem dX4_dead_32 : decode cX4_dead 32 = .ok (.iload_n 3, 1) := by decide +kernel
theorem dX4_dead_33 : decode cX4_dead 33 = .ok (.ishl, 1) := by decide +kernel
theorem dX4_dead_34 : decode cX4_dead 34 = .ok (.goto 4, 3) := by decide +kernel
theorem dX4_dead_37 : decode cX4_dead 37 = .ok (.iconst 0, 1) := by decide +kernel
theorem dX4_dead_38 : decode cX4_dead 38 = .ok (.ior, 1) := by decide +kernel
theorem dX4_dead_39 : decode cX4_dead 39 = .ok (.istore_n 2, 1) := by decide +kernel
theorem dX4_dead_40 : decode cX4_dead 40 = .ok (.iinc 3 1, 3) := by decide +kernel
theorem dX4_dead_43 : decode cX4_dead 43 = .ok (.goto (-28), 3) := by decide +kernel
theorem dX4_dead_46 : decode cX4_dead 46 = .ok (.iload_n 2, 1) := by decide +kernel
theorem dX4_dead_47 : decode cX4_dead 47 = .ok (.ireturn, 1) := by decide +kernel
theorem dX4_ghosts_0 : decode cX4_ghosts 0 = .ok (.aload_n 0, 1) := by decide +kernel
theorem dX4_ghosts_1 : decode cX4_ghosts 1 = .ok (.iload_n 1, 1) := by decide +kernel
theorem dX4_ghosts_2 : decode cX4_ghosts 2 = .ok (.invokevirtual 53, 3) := by decide +kernel
theorem dX4_ghosts_5 : decode cX4_ghosts 5 = .ok (.ifCond .eq 26, 3) := by decide +kernel
theorem dX4_ghosts_8 : decode cX4_ghosts 8 = .ok (.aload_n 0, 1) := by decide +kernel
theorem dX4_ghosts_9 : decode cX4_ghosts 9 = .ok (.iload_n 2, 1) := by decide +kernel
theorem dX4_ghosts_10 : decode cX4_ghosts 10 = .ok (.invokevirtual 53, 3) := by decide +kernel
theorem dX4_ghosts_13 : decode cX4_ghosts 13 = .ok (.ifCond .eq 18, 3) := by decide +kernel
theorem dX4_ghosts_16 : decode cX4_ghosts 16 = .ok (.iload_n 1, 1) := by decide +kernel
theorem dX4_ghosts_17 : decode cX4_ghosts 17 = .ok (.iload_n 2, 1) := by decide +kernel
theorem dX4_ghosts_18 : decode cX4_ghosts 18 = .ok (.if_icmp .eq 13, 3) := by decide +kernel
theorem dX4_ghosts_21 : decode cX4_ghosts 21 = .ok (.iload_n 3, 1) := by decide +kernel
theorem dX4_ghosts_22 : decode cX4_ghosts 22 = .ok (.iconst 0, 1) := by decide +kernel
theorem dX4_ghosts_23 : decode cX4_ghosts 23 = .ok (.bipush 60, 2) := by decide +kernel
theorem dX4_ghosts_25 : decode cX4_ghosts 25 = .ok (.invokestatic 33, 3) := by decide +kernel
theorem dX4_ghosts_28 : decode cX4_ghosts 28 = .ok (.ifCond .ne 6, 3) := by decide +kernel
theorem dX4_ghosts_31 : decode cX4_ghosts 31 = .ok (.ldc 40, 2) := by decide +kernel
theorem dX4_ghosts_33 : decode cX4_ghosts 33 = .ok (.ireturn, 1) := by decide +kernel
theorem dX4_ghosts_34 : decode cX4_ghosts 34 = .ok (.aload_n 0, 1) := by decide +kernel
theorem dX4_ghosts_35 : decode cX4_ghosts 35 = .ok (.iload_n 1, 1) := by decide +kernel
theorem dX4_ghosts_36 : decode cX4_ghosts 36 = .ok (.invokevirtual 70, 3) := by decide +kernel
theorem dX4_ghosts_39 : decode cX4_ghosts 39 = .ok (.ifCond .ne 11, 3) := by decide +kernel
theorem dX4_ghosts_42 : decode cX4_ghosts 42 = .ok (.aload_n 0, 1) := by decide +kernel
theorem dX4_ghosts_43 : decode cX4_ghosts 43 = .ok (.iload_n 2, 1) := by decide +kernel
theorem dX4_ghosts_44 : decode cX4_ghosts 44 = .ok (.invokevirtual 70, 3) := by decide +kernel
theorem dX4_ghosts_47 : decode cX4_ghosts 47 = .ok (.ifCond .eq 6, 3) := by decide +kernel
theorem dX4_ghosts_50 : decode cX4_ghosts 50 = .ok (.ldc 60, 2) := by decide +kernel
theorem dX4_ghosts_52 : decode cX4_ghosts 52 = .ok (.ireturn, 1) := by decide +kernel
theorem dX4_ghosts_53 : decode cX4_ghosts 53 = .ok (.aload_n 0, 1) := by decide +kernel
theorem dX4_ghosts_54 : decode cX4_ghosts 54 = .ok (.invokevirtual 135, 3) := by decide +kernel
theorem dX4_ghosts_57 : decode cX4_ghosts 57 = .ok (.iconst 0, 1) := by decide +kernel
theorem dX4_ghosts_58 : decode cX4_ghosts 58 = .ok (.istore 4, 2) := by decide +kernel
theorem dX4_ghosts_60 : decode cX4_ghosts 60 = .ok (.iload 4, 2) := by decide +kernel
theorem dX4_ghosts_62 : decode cX4_ghosts 62 = .ok (.iload_n 3, 1) := by decide +kernel
theorem dX4_ghosts_63 : decode cX4_ghosts 63 = .ok (.if_icmp .ge 14, 3) := by decide +kernel
theorem dX4_ghosts_66 : decode cX4_ghosts 66 = .ok (.aload_n 0, 1) := by decide +kernel
theorem dX4_ghosts_67 : decode cX4_ghosts 67 = .ok (.invokevirtual 128, 3) := by decide +kernel
theorem dX4_ghosts_70 : decode cX4_ghosts 70 = .ok (.pop, 1) := by decide +kernel
theorem dX4_ghosts_71 : decode cX4_ghosts 71 = .ok (.iinc 4 1, 3) := by decide +kernel
theorem dX4_ghosts_74 : decode cX4_ghosts 74 = .ok (.goto (-14), 3) := by decide +kernel
theorem dX4_ghosts_77 : decode cX4_ghosts 77 = .ok (.aload_n 0, 1) := by decide +kernel
theorem dX4_ghosts_78 : decode cX4_ghosts 78 = .ok (.getfield 7, 3) := by decide +kernel
theorem dX4_ghosts_81 : decode cX4_ghosts 81 = .ok (.iconst 3, 1) := by decide +kernel
theorem dX4_ghosts_82 : decode cX4_ghosts 82 = .ok (.iaload, 1) := by decide +kernel
theorem dX4_ghosts_83 : decode cX4_ghosts 83 = .ok (.istore 4, 2) := by decide +kernel
theorem dX4_ghosts_85 : decode cX4_ghosts 85 = .ok (.aload_n 0, 1) := by decide +kernel
theorem dX4_ghosts_86 : decode cX4_ghosts 86 = .ok (.iload_n 1, 1) := by decide +kernel
theorem dX4_ghosts_87 : decode cX4_ghosts 87 = .ok (.iload_n 2, 1) := by decide +kernel
theorem dX4_ghosts_88 : decode cX4_ghosts 88 = .ok (.invokevirtual 114, 3) := by decide +kernel
theorem dX4_ghosts_91 : decode cX4_ghosts 91 = .ok (.pop, 1) := by decide +kernel
theorem dX4_ghosts_92 : decode cX4_ghosts 92 = .ok (.aload_n 0, 1) := by decide +kernel
theorem dX4_ghosts_93 : decode cX4_ghosts 93 = .ok (.getfield 7, 3) := by decide +kernel
theorem dX4_ghosts_96 : decode cX4_ghosts 96 = .ok (.iconst 3, 1) := by decide +kernel
theorem dX4_ghosts_97 : decode cX4_ghosts 97 = .ok (.iaload, 1) := by decide +kernel
theorem dX4_ghosts_98 : decode cX4_ghosts 98 = .ok (.iload 4, 2) := by decide +kernel
theorem dX4_ghosts_100 : decode cX4_ghosts 100 = .ok (.isub, 1) := by decide +kernel
theorem dX4_ghosts_101 : decode cX4_ghosts 101 = .ok (.istore 5, 2) := by decide +kernel
theorem dX4_ghosts_103 : decode cX4_ghosts 103 = .ok (.aload_n 0, 1) := by decide +kernel
theorem dX4_ghosts_104 : decode cX4_ghosts 104 = .ok (.invokevirtual 138, 3) := by decide +kernel
theorem dX4_ghosts_107 : decode cX4_ghosts 107 = .ok (.iload 5, 2) := by decide +kernel
theorem dX4_ghosts_109 : decode cX4_ghosts 109 = .ok (.ireturn, 1) := by decide +kernel
theorem dX4_bestMeeting_0 : decode cX4_bestMeeting 0 = .ok (.iload_n 1, 1) := by decide +kernel
theorem dX4_bestMeeting_1 : decode cX4_bestMeeting 1 = .ok (.iconst 0, 1) := by decide +kernel
theorem dX4_bestMeeting_2 : decode cX4_bestMeeting 2 = .ok (.iconst 1, 1) := by decide +kernel
theorem dX4_bestMeeting_3 : decode cX4_bestMeeting 3 = .ok (.invokestatic 33, 3) := by decide +kernel
theorem dX4_bestMeeting_6 : decode cX4_bestMeeting 6 = .ok (.ifCond .ne 6, 3) := by decide +kernel
theorem dX4_bestMeeting_9 : decode cX4_bestMeeting 9 = .ok (.ldc 40, 2) := by decide +kernel
theorem dX4_bestMeeting_11 : decode cX4_bestMeeting 11 = .ok (.ireturn, 1) := by decide +kernel
theorem dX4_bestMeeting_12 : decode cX4_bestMeeting 12 = .ok (.ldc 80, 2) := by decide +kernel
theorem dX4_bestMeeting_14 : decode cX4_bestMeeting 14 = .ok (.istore_n 2, 1) := by decide +kernel
theorem dX4_bestMeeting_15 : decode cX4_bestMeeting 15 = .ok (.iconst (-1), 1) := by decide +kernel
theorem dX4_bestMeeting_16 : decode cX4_bestMeeting 16 = .ok (.istore_n 3, 1) := by decide +kernel
theorem dX4_bestMeeting_17 : decode cX4_bestMeeting 17 = .ok (.iconst 0, 1) := by decide +kernel
theorem dX4_bestMeeting_18 : decode cX4_bestMeeting 18 = .ok (.istore 4, 2) := by decide +kernel
theorem dX4_bestMeeting_20 : decode cX4_bestMeeting 20 = .ok (.iload 4, 2) := by decide +kernel
theorem dX4_bestMeeting_22 : decode cX4_bestMeeting 22 = .ok (.aload_n 0, 1) := by decide +kernel
theorem dX4_bestMeeting_23 : decode cX4_bestMeeting 23 = .ok (.getfield 7, 3) := by decide +kernel
theorem dX4_bestMeeting_26 : decode cX4_bestMeeting 26 = .ok (.iconst 0, 1) := by decide +kernel
theorem dX4_bestMeeting_27 : decode cX4_bestMeeting 27 = .ok (.iaload, 1) := by decide +kernel
theorem dX4_bestMeeting_28 : decode cX4_bestMeeting 28 = .ok (.if_icmp .ge 100, 3) := by decide +kernel
theorem dX4_bestMeeting_31 : decode cX4_bestMeeting 31 = .ok (.iload 4, 2) := by decide +kernel
theorem dX4_bestMeeting_33 : decode cX4_bestMeeting 33 = .ok (.iconst 1, 1) := by decide +kernel
theorem dX4_bestMeeting_34 : decode cX4_bestMeeting 34 = .ok (.iadd, 1) := by decide +kernel
theorem dX4_bestMeeting_35 : decode cX4_bestMeeting 35 = .ok (.istore 5, 2) := by decide +kernel
theorem dX4_bestMeeting_37 : decode cX4_bestMeeting 37 = .ok (.iload 5, 2) := by decide +kernel
theorem dX4_bestMeeting_39 : decode cX4_bestMeeting 39 = .ok (.aload_n 0, 1) := by decide +kernel
theorem dX4_bestMeeting_40 : decode cX4_bestMeeting 40 = .ok (.getfield 7, 3) := by decide +kernel
theorem dX4_bestMeeting_43 : decode cX4_bestMeeting 43 = .ok (.iconst 0, 1) := by decide +kernel
theorem dX4_bestMeeting_44 : decode cX4_bestMeeting 44 = .ok (.iaload, 1) := by decide +kernel
theorem dX4_bestMeeting_45 : decode cX4_bestMeeting 45 = .ok (.if_icmp .ge 77, 3) := by decide +kernel
theorem dX4_bestMeeting_48 : decode cX4_bestMeeting 48 = .ok (.aload_n 0, 1) := by decide +kernel
theorem dX4_bestMeeting_49 : decode cX4_bestMeeting 49 = .ok (.iload 4, 2) := by decide +kernel
theorem dX4_bestMeeting_51 : decode cX4_bestMeeting 51 = .ok (.invokevirtual 57, 3) := by decide +kernel
theorem dX4_bestMeeting_54 : decode cX4_bestMeeting 54 = .ok (.ifCond .eq 62, 3) := by decide +kernel
theorem dX4_bestMeeting_57 : decode cX4_bestMeeting 57 = .ok (.aload_n 0, 1) := by decide +kernel
theorem dX4_bestMeeting_58 : decode cX4_bestMeeting 58 = .ok (.iload 5, 2) := by decide +kernel
theorem dX4_bestMeeting_60 : decode cX4_bestMeeting 60 = .ok (.invokevirtual 57, 3) := by decide +kernel
theorem dX4_bestMeeting_63 : decode cX4_bestMeeting 63 = .ok (.ifCond .eq 53, 3) := by decide +kernel
theorem dX4_bestMeeting_66 : decode cX4_bestMeeting 66 = .ok (.aload_n 0, 1) := by decide +kernel
theorem dX4_bestMeeting_67 : decode cX4_bestMeeting 67 = .ok (.invokevirtual 135, 3) := by decide +kernel
theorem dX4_bestMeeting_70 : decode cX4_bestMeeting 70 = .ok (.aload_n 0, 1) := by decide +kernel
theorem dX4_bestMeeting_71 : decode cX4_bestMeeting 71 = .ok (.iload 4, 2) := by decide +kernel
theorem dX4_bestMeeting_73 : decode cX4_bestMeeting 73 = .ok (.iload 5, 2) := by decide +kernel
theorem dX4_bestMeeting_75 : decode cX4_bestMeeting 75 = .ok (.invokevirtual 114, 3) := by decide +kernel
theorem dX4_bestMeeting_78 : decode cX4_bestMeeting 78 = .ok (.istore 6, 2) := by decide +kernel
theorem dX4_bestMeeting_80 : decode cX4_bestMeeting 80 = .ok (.aload_n 0, 1) := by decide +kernel
theorem dX4_bestMeeting_81 : decode cX4_bestMeeting 81 = .ok (.invokevirtual 138, 3) := by decide +kernel
theorem dX4_bestMeeting_84 : decode cX4_bestMeeting 84 = .ok (.iload 6, 2) := by decide +kernel
theorem dX4_bestMeeting_86 : decode cX4_bestMeeting 86 = .ok (.iload_n 3, 1) := by decide +kernel
theorem dX4_bestMeeting_87 : decode cX4_bestMeeting 87 = .ok (.if_icmp .le 14, 3) := by decide +kernel
theorem dX4_bestMeeting_90 : decode cX4_bestMeeting 90 = .ok (.bipush 10, 2) := by decide +kernel
theorem dX4_bestMeeting_92 : decode cX4_bestMeeting 92 = .ok (.iload 4, 2) := by decide +kernel
theorem dX4_bestMeeting_94 : decode cX4_bestMeeting 94 = .ok (.imul, 1) := by decide +kernel
theorem dX4_bestMeeting_95 : decode cX4_bestMeeting 95 = .ok (.iload 5, 2) := by decide +kernel
theorem dX4_bestMeeting_97 : decode cX4_bestMeeting 97 = .ok (.iadd, 1) := by decide +kernel
theorem dX4_bestMeeting_98 : decode cX4_bestMeeting 98 = .ok (.goto 4, 3) := by decide +kernel
theorem dX4_bestMeeting_101 : decode cX4_bestMeeting 101 = .ok (.iload_n 2, 1) := by decide +kernel
theorem dX4_bestMeeting_102 : decode cX4_bestMeeting 102 = .ok (.istore_n 2, 1) := by decide +kernel
theorem dX4_bestMeeting_103 : decode cX4_bestMeeting 103 = .ok (.iload 6, 2) := by decide +kernel
theorem dX4_bestMeeting_105 : decode cX4_bestMeeting 105 = .ok (.iload_n 3, 1) := by decide +kernel
theorem dX4_bestMeeting_106 : decode cX4_bestMeeting 106 = .ok (.if_icmp .le 8, 3) := by decide +kernel
theorem dX4_bestMeeting_109 : decode cX4_bestMeeting 109 = .ok (.iload 6, 2) := by decide +kernel
theorem dX4_bestMeeting_111 : decode cX4_bestMeeting 111 = .ok (.goto 4, 3) := by decide +kernel
theorem dX4_bestMeeting_114 : decode cX4_bestMeeting 114 = .ok (.iload_n 3, 1) := by decide +kernel
theorem dX4_bestMeeting_115 : decode cX4_bestMeeting 115 = .ok (.istore_n 3, 1) := by decide +kernel
theorem dX4_bestMeeting_116 : decode cX4_bestMeeting 116 = .ok (.iinc 5 1, 3) := by decide +kernel
theorem dX4_bestMeeting_119 : decode cX4_bestMeeting 119 = .ok (.goto (-82), 3) := by decide +kernel
theorem dX4_bestMeeting_122 : decode cX4_bestMeeting 122 = .ok (.iinc 4 1, 3) := by decide +kernel
theorem dX4_bestMeeting_125 : decode cX4_bestMeeting 125 = .ok (.goto (-105), 3) := by decide +kernel
theorem dX4_bestMeeting_128 : decode cX4_bestMeeting 128 = .ok (.iload_n 1, 1) := by decide +kernel
theorem dX4_bestMeeting_129 : decode cX4_bestMeeting 129 = .ok (.ifCond .eq 7, 3) := by decide +kernel
theorem dX4_bestMeeting_132 : decode cX4_bestMeeting 132 = .ok (.iload_n 3, 1) := by decide +kernel
theorem dX4_bestMeeting_133 : decode cX4_bestMeeting 133 = .ok (.ifCond .ge 7, 3) := by decide +kernel
theorem dX4_bestMeeting_136 : decode cX4_bestMeeting 136 = .ok (.iload_n 2, 1) := by decide +kernel
theorem dX4_bestMeeting_137 : decode cX4_bestMeeting 137 = .ok (.goto 4, 3) := by decide +kernel
theorem dX4_bestMeeting_140 : decode cX4_bestMeeting 140 = .ok (.iload_n 3, 1) := by decide +kernel
theorem dX4_bestMeeting_141 : decode cX4_bestMeeting 141 = .ok (.ireturn, 1) := by decide +kernel
theorem dX4_awakeBehind_0 : decode cX4_awakeBehind 0 = .ok (.iload_n 1, 1) := by decide +kernel
theorem dX4_awakeBehind_1 : decode cX4_awakeBehind 1 = .ok (.iconst 1, 1) := by decide +kernel
theorem dX4_awakeBehind_2 : decode cX4_awakeBehind 2 = .ok (.iadd, 1) := by decide +kernel
theorem dX4_awakeBehind_3 : decode cX4_awakeBehind 3 = .ok (.istore_n 2, 1) := by decide +kernel
theorem dX4_awakeBehind_4 : decode cX4_awakeBehind 4 = .ok (.iload_n 2, 1) := by decide +kernel
theorem dX4_awakeBehind_5 : decode cX4_awakeBehind 5 = .ok (.aload_n 0, 1) := by decide +kernel
theorem dX4_awakeBehind_6 : decode cX4_awakeBehind 6 = .ok (.getfield 7, 3) := by decide +kernel
theorem dX4_awakeBehind_9 : decode cX4_awakeBehind 9 = .ok (.iconst 0, 1) := by decide +kernel
theorem dX4_awakeBehind_10 : decode cX4_awakeBehind 10 = .ok (.iaload, 1) := by decide +kernel
theorem dX4_awakeBehind_11 : decode cX4_awakeBehind 11 = .ok (.if_icmp .ge 17, 3) := by decide +kernel
theorem dX4_awakeBehind_14 : decode cX4_awakeBehind 14 = .ok (.aload_n 0, 1) := by decide +kernel
theorem dX4_awakeBehind_15 : decode cX4_awakeBehind 15 = .ok (.iload_n 2, 1) := by decide +kernel
theorem dX4_awakeBehind_16 : decode cX4_awakeBehind 16 = .ok (.invokevirtual 57, 3) := by decide +kernel
theorem dX4_awakeBehind_19 : decode cX4_awakeBehind 19 = .ok (.ifCond .ne 9, 3) := by decide +kernel
theorem dX4_awakeBehind_22 : decode cX4_awakeBehind 22 = .ok (.iinc 2 1, 3) := by decide +kernel
theorem dX4_awakeBehind_25 : decode cX4_awakeBehind 25 = .ok (.goto (-21), 3) := by decide +kernel
theorem dX4_awakeBehind_28 : decode cX4_awakeBehind 28 = .ok (.iload_n 2, 1) := by decide +kernel
theorem dX4_awakeBehind_29 : decode cX4_awakeBehind 29 = .ok (.ireturn, 1) := by decide +kernel
theorem dX4_areAllSame_0 : decode cX4_areAllSame 0 = .ok (.aload_n 0, 1) := by decide +kernel
theorem dX4_areAllSame_1 : decode cX4_areAllSame 1 = .ok (.iconst (-1), 1) := by decide +kernel
theorem dX4_areAllSame_2 : decode cX4_areAllSame 2 = .ok (.invokevirtual 141, 3) := by decide +kernel
theorem dX4_areAllSame_5 : decode cX4_areAllSame 5 = .ok (.istore_n 1, 1) := by decide +kernel
theorem dX4_areAllSame_6 : decode cX4_areAllSame 6 = .ok (.iconst 1, 1) := by decide +kernel
theorem dX4_areAllSame_7 : decode cX4_areAllSame 7 = .ok (.istore_n 2, 1) := by decide +kernel
theorem dX4_areAllSame_8 : decode cX4_areAllSame 8 = .ok (.aload_n 0, 1) := by decide +kernel
theorem dX4_areAllSame_9 : decode cX4_areAllSame 9 = .ok (.iload_n 1, 1) := by decide +kernel
theorem dX4_areAllSame_10 : decode cX4_areAllSame 10 = .ok (.invokevirtual 141, 3) := by decide +kernel
theorem dX4_areAllSame_13 : decode cX4_areAllSame 13 = .ok (.istore_n 3, 1) := by decide +kernel
theorem dX4_areAllSame_14 : decode cX4_areAllSame 14 = .ok (.iload_n 3, 1) := by decide +kernel
theorem dX4_areAllSame_15 : decode cX4_areAllSame 15 = .ok (.aload_n 0, 1) := by decide +kernel
theorem dX4_areAllSame_16 : decode cX4_areAllSame 16 = .ok (.getfield 7, 3) := by decide +kernel
theorem dX4_areAllSame_19 : decode cX4_areAllSame 19 = .ok (.iconst 0, 1) := by decide +kernel
theorem dX4_areAllSame_20 : decode cX4_areAllSame 20 = .ok (.iaload, 1) := by decide +kernel
theorem dX4_areAllSame_21 : decode cX4_areAllSame 21 = .ok (.if_icmp .ge 49, 3) := by decide +kernel
theorem dX4_areAllSame_24 : decode cX4_areAllSame 24 = .ok (.iconst 0, 1) := by decide +kernel
theorem dX4_areAllSame_25 : decode cX4_areAllSame 25 = .ok (.istore 4, 2) := by decide +kernel
theorem dX4_areAllSame_27 : decode cX4_areAllSame 27 = .ok (.iload 4, 2) := by decide +kernel
theorem dX4_areAllSame_29 : decode cX4_areAllSame 29 = .ok (.bipush 12, 2) := by decide +kernel
theorem dX4_areAllSame_31 : decode cX4_areAllSame 31 = .ok (.if_icmp .ge 30, 3) := by decide +kernel
theorem dX4_areAllSame_34 : decode cX4_areAllSame 34 = .ok (.iload_n 2, 1) := by decide +kernel
theorem dX4_areAllSame_35 : decode cX4_areAllSame 35 = .ok (.ifCond .eq 18, 3) := by decide +kernel
theorem dX4_areAllSame_38 : decode cX4_areAllSame 38 = .ok (.aload_n 0, 1) := by decide +kernel
theorem dX4_areAllSame_39 : decode cX4_areAllSame 39 = .ok (.iload_n 1, 1) := by decide +kernel
theorem dX4_areAllSame_40 : decode cX4_areAllSame 40 = .ok (.iload_n 3, 1) := by decide +kernel
theorem dX4_areAllSame_41 : decode cX4_areAllSame 41 = .ok (.iload 4, 2) := by decide +kernel
theorem dX4_areAllSame_43 : decode cX4_areAllSame 43 = .ok (.invokevirtual 111, 3) := by decide +kernel
theorem dX4_areAllSame_46 : decode cX4_areAllSame 46 = .ok (.ifCond .eq 7, 3) := by decide +kernel
theorem dX4_areAllSame_49 : decode cX4_areAllSame 49 = .ok (.iconst 1, 1) := by decide +kernel
theorem dX4_areAllSame_50 : decode cX4_areAllSame 50 = .ok (.goto 4, 3) := by decide +kernel
theorem dX4_areAllSame_53 : decode cX4_areAllSame 53 = .ok (.iconst 0, 1) := by decide +kernel
theorem dX4_areAllSame_54 : decode cX4_areAllSame 54 = .ok (.istore_n 2, 1) := by decide +kernel
theorem dX4_areAllSame_55 : decode cX4_areAllSame 55 = .ok (.iinc 4 1, 3) := by decide +kernel
theorem dX4_areAllSame_58 : decode cX4_areAllSame 58 = .ok (.goto (-31), 3) := by decide +kernel
theorem dX4_areAllSame_61 : decode cX4_areAllSame 61 = .ok (.aload_n 0, 1) := by decide +kernel
theorem dX4_areAllSame_62 : decode cX4_areAllSame 62 = .ok (.iload_n 3, 1) := by decide +kernel
theorem dX4_areAllSame_63 : decode cX4_areAllSame 63 = .ok (.invokevirtual 141, 3) := by decide +kernel
theorem dX4_areAllSame_66 : decode cX4_areAllSame 66 = .ok (.istore_n 3, 1) := by decide +kernel
theorem dX4_areAllSame_67 : decode cX4_areAllSame 67 = .ok (.goto (-53), 3) := by decide +kernel
theorem dX4_areAllSame_70 : decode cX4_areAllSame 70 = .ok (.iload_n 2, 1) := by decide +kernel
theorem dX4_areAllSame_71 : decode cX4_areAllSame 71 = .ok (.ireturn, 1) := by decide +kernel
theorem dX4_round_0 : decode cX4_round 0 = .ok (.aload_n 0, 1) := by decide +kernel
theorem dX4_round_1 : decode cX4_round 1 = .ok (.iconst (-1), 1) := by decide +kernel
theorem dX4_round_2 : decode cX4_round 2 = .ok (.invokevirtual 141, 3) := by decide +kernel
theorem dX4_round_5 : decode cX4_round 5 = .ok (.istore_n 1, 1) := by decide +kernel
theorem dX4_round_6 : decode cX4_round 6 = .ok (.iload_n 1, 1) := by decide +kernel
theorem dX4_round_7 : decode cX4_round 7 = .ok (.istore_n 2, 1) := by decide +kernel
theorem dX4_round_8 : decode cX4_round 8 = .ok (.iload_n 2, 1) := by decide +kernel
theorem dX4_round_9 : decode cX4_round 9 = .ok (.aload_n 0, 1) := by decide +kernel
theorem dX4_round_10 : decode cX4_round 10 = .ok (.getfield 7, 3) := by decide +kernel
theorem dX4_round_13 : decode cX4_round 13 = .ok (.iconst 0, 1) := by decide +kernel
theorem dX4_round_14 : decode cX4_round 14 = .ok (.iaload, 1) := by decide +kernel
theorem dX4_round_15 : decode cX4_round 15 = .ok (.if_icmp .ge 54, 3) := by decide +kernel
theorem dX4_round_18 : decode cX4_round 18 = .ok (.aload_n 0, 1) := by decide +kernel
theorem dX4_round_19 : decode cX4_round 19 = .ok (.iload_n 2, 1) := by decide +kernel
theorem dX4_round_20 : decode cX4_round 20 = .ok (.invokevirtual 141, 3) := by decide +kernel
theorem dX4_round_23 : decode cX4_round 23 = .ok (.istore_n 3, 1) := by decide +kernel
theorem dX4_round_24 : decode cX4_round 24 = .ok (.iload_n 3, 1) := by decide +kernel
theorem dX4_round_25 : decode cX4_round 25 = .ok (.aload_n 0, 1) := by decide +kernel
theorem dX4_round_26 : decode cX4_round 26 = .ok (.getfield 7, 3) := by decide +kernel
theorem dX4_round_29 : decode cX4_round 29 = .ok (.iconst 0, 1) := by decide +kernel
theorem dX4_round_30 : decode cX4_round 30 = .ok (.iaload, 1) := by decide +kernel
theorem dX4_round_31 : decode cX4_round 31 = .ok (.if_icmp .ge 13, 3) := by decide +kernel
theorem dX4_round_34 : decode cX4_round 34 = .ok (.aload_n 0, 1) := by decide +kernel
theorem dX4_round_35 : decode cX4_round 35 = .ok (.iload_n 2, 1) := by decide +kernel
theorem dX4_round_36 : decode cX4_round 36 = .ok (.iload_n 3, 1) := by decide +kernel
theorem dX4_round_37 : decode cX4_round 37 = .ok (.invokevirtual 114, 3) := by decide +kernel
theorem dX4_round_40 : decode cX4_round 40 = .ok (.pop, 1) := by decide +kernel
theorem dX4_round_41 : decode cX4_round 41 = .ok (.goto 19, 3) := by decide +kernel
theorem dX4_round_44 : decode cX4_round 44 = .ok (.aload_n 0, 1) := by decide +kernel
theorem dX4_round_45 : decode cX4_round 45 = .ok (.iconst 0, 1) := by decide +kernel
theorem dX4_round_46 : decode cX4_round 46 = .ok (.invokevirtual 61, 3) := by decide +kernel
theorem dX4_round_49 : decode cX4_round 49 = .ok (.iconst 2, 1) := by decide +kernel
theorem dX4_round_50 : decode cX4_round 50 = .ok (.if_icmp .le 10, 3) := by decide +kernel
theorem dX4_round_53 : decode cX4_round 53 = .ok (.aload_n 0, 1) := by decide +kernel
theorem dX4_round_54 : decode cX4_round 54 = .ok (.iload_n 2, 1) := by decide +kernel
theorem dX4_round_55 : decode cX4_round 55 = .ok (.iload_n 1, 1) := by decide +kernel
theorem dX4_round_56 : decode cX4_round 56 = .ok (.invokevirtual 114, 3) := by decide +kernel
theorem dX4_round_59 : decode cX4_round 59 = .ok (.pop, 1) := by decide +kernel
theorem dX4_round_60 : decode cX4_round 60 = .ok (.aload_n 0, 1) := by decide +kernel
theorem dX4_round_61 : decode cX4_round 61 = .ok (.iload_n 2, 1) := by decide +kernel
theorem dX4_round_62 : decode cX4_round 62 = .ok (.invokevirtual 141, 3) := by decide +kernel
theorem dX4_round_65 : decode cX4_round 65 = .ok (.istore_n 2, 1) := by decide +kernel
theorem dX4_round_66 : decode cX4_round 66 = .ok (.goto (-58), 3) := by decide +kernel
theorem dX4_round_69 : decode cX4_round 69 = .ok (.return_, 1) := by decide +kernel
theorem dX4_rounds_0 : decode cX4_rounds 0 = .ok (.aload_n 0, 1) := by decide +kernel
theorem dX4_rounds_1 : decode cX4_rounds 1 = .ok (.invokevirtual 135, 3) := by decide +kernel
theorem dX4_rounds_4 : decode cX4_rounds 4 = .ok (.iconst 0, 1) := by decide +kernel
theorem dX4_rounds_5 : decode cX4_rounds 5 = .ok (.istore_n 1, 1) := by decide +kernel
theorem dX4_rounds_6 : decode cX4_rounds 6 = .ok (.iload_n 1, 1) := by decide +kernel
theorem dX4_rounds_7 : decode cX4_rounds 7 = .ok (.bipush 7, 2) := by decide +kernel
theorem dX4_rounds_9 : decode cX4_rounds 9 = .ok (.if_icmp .ge 20, 3) := by decide +kernel
theorem dX4_rounds_12 : decode cX4_rounds 12 = .ok (.aload_n 0, 1) := by decide +kernel
theorem dX4_rounds_13 : decode cX4_rounds 13 = .ok (.invokevirtual 144, 3) := by decide +kernel
theorem dX4_rounds_16 : decode cX4_rounds 16 = .ok (.ifCond .ne 13, 3) := by decide +kernel
theorem dX4_rounds_19 : decode cX4_rounds 19 = .ok (.aload_n 0, 1) := by decide +kernel
theorem dX4_rounds_20 : decode cX4_rounds 20 = .ok (.invokevirtual 148, 3) := by decide +kernel
theorem dX4_rounds_23 : decode cX4_rounds 23 = .ok (.iinc 1 1, 3) := by decide +kernel
theorem dX4_rounds_26 : decode cX4_rounds 26 = .ok (.goto (-20), 3) := by decide +kernel
theorem dX4_rounds_29 : decode cX4_rounds 29 = .ok (.aload_n 0, 1) := by decide +kernel
theorem dX4_rounds_30 : decode cX4_rounds 30 = .ok (.invokevirtual 144, 3) := by decide +kernel
theorem dX4_rounds_33 : decode cX4_rounds 33 = .ok (.istore_n 2, 1) := by decide +kernel
theorem dX4_rounds_34 : decode cX4_rounds 34 = .ok (.aload_n 0, 1) := by decide +kernel
theorem dX4_rounds_35 : decode cX4_rounds 35 = .ok (.invokevirtual 138, 3) := by decide +kernel
theorem dX4_rounds_38 : decode cX4_rounds 38 = .ok (.iload_n 2, 1) := by decide +kernel
theorem dX4_rounds_39 : decode cX4_rounds 39 = .ok (.ifCond .eq 7, 3) := by decide +kernel
theorem dX4_rounds_42 : decode cX4_rounds 42 = .ok (.iload_n 1, 1) := by decide +kernel
theorem dX4_rounds_43 : decode cX4_rounds 43 = .ok (.goto 5, 3) := by decide +kernel
theorem dX4_rounds_46 : decode cX4_rounds 46 = .ok (.ldc 80, 2) := by decide +kernel
theorem dX4_rounds_48 : decode cX4_rounds 48 = .ok (.ireturn, 1) := by decide +kernel
theorem dX4_entries_0 : decode cX4_entries 0 = .ok (.iconst 0, 1) := by decide +kernel
theorem dX4_entries_1 : decode cX4_entries 1 = .ok (.istore_n 2, 1) := by decide +kernel
theorem dX4_entries_2 : decode cX4_entries 2 = .ok (.iconst 0, 1) := by decide +kernel
theorem dX4_entries_3 : decode cX4_entries 3 = .ok (.istore_n 3, 1) := by decide +kernel
theorem dX4_entries_4 : decode cX4_entries 4 = .ok (.iload_n 3, 1) := by decide +kernel
theorem dX4_entries_5 : decode cX4_entries 5 = .ok (.bipush 84, 2) := by decide +kernel
theorem dX4_entries_7 : decode cX4_entries 7 = .ok (.if_icmp .ge 70, 3) := by decide +kernel
theorem dX4_entries_10 : decode cX4_entries 10 = .ok (.iload_n 3, 1) := by decide +kernel
theorem dX4_entries_11 : decode cX4_entries 11 = .ok (.bipush 12, 2) := by decide +kernel
theorem dX4_entries_13 : decode cX4_entries 13 = .ok (.idiv, 1) := by decide +kernel
theorem dX4_entries_14 : decode cX4_entries 14 = .ok (.istore 4, 2) := by decide +kernel
theorem dX4_entries_16 : decode cX4_entries 16 = .ok (.iload_n 2, 1) := by decide +kernel
theorem dX4_entries_17 : decode cX4_entries 17 = .ok (.iload 4, 2) := by decide +kernel
theorem dX4_entries_19 : decode cX4_entries 19 = .ok (.aload_n 0, 1) := by decide +kernel
theorem dX4_entries_20 : decode cX4_entries 20 = .ok (.getfield 7, 3) := by decide +kernel
theorem dX4_entries_23 : decode cX4_entries 23 = .ok (.iconst 0, 1) := by decide +kernel
theorem dX4_entries_24 : decode cX4_entries 24 = .ok (.iaload, 1) := by decide +kernel
theorem dX4_entries_25 : decode cX4_entries 25 = .ok (.if_icmp .ge 43, 3) := by decide +kernel
theorem dX4_entries_28 : decode cX4_entries 28 = .ok (.iload_n 1, 1) := by decide +kernel
theorem dX4_entries_29 : decode cX4_entries 29 = .ok (.iconst 3, 1) := by decide +kernel
theorem dX4_entries_30 : decode cX4_entries 30 = .ok (.if_icmp .ne 19, 3) := by decide +kernel
theorem dX4_entries_33 : decode cX4_entries 33 = .ok (.aload_n 0, 1) := by decide +kernel
theorem dX4_entries_34 : decode cX4_entries 34 = .ok (.iload 4, 2) := by decide +kernel
theorem dX4_entries_36 : decode cX4_entries 36 = .ok (.iload_n 3, 1) := by decide +kernel
theorem dX4_entries_37 : decode cX4_entries 37 = .ok (.bipush 12, 2) := by decide +kernel
theorem dX4_entries_39 : decode cX4_entries 39 = .ok (.irem, 1) := by decide +kernel
theorem dX4_entries_40 : decode cX4_entries 40 = .ok (.invokevirtual 120, 3) := by decide +kernel
theorem dX4_entries_43 : decode cX4_entries 43 = .ok (.ifCond .eq 25, 3) := by decide +kernel
theorem dX4_entries_46 : decode cX4_entries 46 = .ok (.goto 18, 3) := by decide +kernel
theorem dX4_entries_49 : decode cX4_entries 49 = .ok (.aload_n 0, 1) := by decide +kernel
theorem dX4_entries_50 : decode cX4_entries 50 = .ok (.iload 4, 2) := by decide +kernel
theorem dX4_entries_52 : decode cX4_entries 52 = .ok (.iload_n 3, 1) := by decide +kernel
theorem dX4_entries_53 : decode cX4_entries 53 = .ok (.bipush 12, 2) := by decide +kernel
theorem dX4_entries_55 : decode cX4_entries 55 = .ok (.irem, 1) := by decide +kernel
theorem dX4_entries_56 : decode cX4_entries 56 = .ok (.iconst 0, 1) := by decide +kernel
theorem dX4_entries_57 : decode cX4_entries 57 = .ok (.invokevirtual 73, 3) := by decide +kernel
theorem dX4_entries_60 : decode cX4_entries 60 = .ok (.iload_n 1, 1) := by decide +kernel
theorem dX4_entries_61 : decode cX4_entries 61 = .ok (.if_icmp .ne 7, 3) := by decide +kernel
theorem dX4_entries_64 : decode cX4_entries 64 = .ok (.iconst 1, 1) := by decide +kernel
theorem dX4_entries_65 : decode cX4_entries 65 = .ok (.goto 4, 3) := by decide +kernel
theorem dX4_entries_68 : decode cX4_entries 68 = .ok (.iconst 0, 1) := by decide +kernel
theorem dX4_entries_69 : decode cX4_entries 69 = .ok (.iadd, 1) := by decide +kernel
theorem dX4_entries_70 : decode cX4_entries 70 = .ok (.istore_n 2, 1) := by decide +kernel
theorem dX4_entries_71 : decode cX4_entries 71 = .ok (.iinc 3 1, 3) := by decide +kernel
theorem dX4_entries_74 : decode cX4_entries 74 = .ok (.goto (-70), 3) := by decide +kernel
theorem dX4_entries_77 : decode cX4_entries 77 = .ok (.iload_n 2, 1) := by decide +kernel
theorem dX4_entries_78 : decode cX4_entries 78 = .ok (.ireturn, 1) := by decide +kernel
theorem dX4_count_0 : decode cX4_count 0 = .ok (.iload_n 1, 1) := by decide +kernel
theorem dX4_count_1 : decode cX4_count 1 = .ok (.tableswitch 124 0 11 #[63, 70, 70, 78, 85, 92, 92, 92, 100, 107, 114, 119], 63) := by decide +kernel
theorem dX4_count_64 : decode cX4_count 64 = .ok (.aload_n 0, 1) := by decide +kernel
theorem dX4_count_65 : decode cX4_count 65 = .ok (.getfield 7, 3) := by decide +kernel
theorem dX4_count_68 : decode cX4_count 68 = .ok (.iconst 0, 1) := by decide +kernel
theorem dX4_count_69 : decode cX4_count 69 = .ok (.iaload, 1) := by decide +kernel
theorem dX4_count_70 : decode cX4_count 70 = .ok (.ireturn, 1) := by decide +kernel
theorem dX4_count_71 : decode cX4_count 71 = .ok (.aload_n 0, 1) := by decide +kernel
theorem dX4_count_72 : decode cX4_count 72 = .ok (.iload_n 1, 1) := by decide +kernel
theorem dX4_count_73 : decode cX4_count 73 = .ok (.iconst 1, 1) := by decide +kernel
theorem dX4_count_74 : decode cX4_count 74 = .ok (.isub, 1) := by decide +kernel
theorem dX4_count_75 : decode cX4_count 75 = .ok (.invokevirtual 61, 3) := by decide +kernel
theorem dX4_count_78 : decode cX4_count 78 = .ok (.ireturn, 1) := by decide +kernel
theorem dX4_count_79 : decode cX4_count 79 = .ok (.aload_n 0, 1) := by decide +kernel
theorem dX4_count_80 : decode cX4_count 80 = .ok (.getfield 7, 3) := by decide +kernel
theorem dX4_count_83 : decode cX4_count 83 = .ok (.iconst 1, 1) := by decide +kernel
theorem dX4_count_84 : decode cX4_count 84 = .ok (.iaload, 1) := by decide +kernel
theorem dX4_count_85 : decode cX4_count 85 = .ok (.ireturn, 1) := by decide +kernel
theorem dX4_count_86 : decode cX4_count 86 = .ok (.aload_n 0, 1) := by decide +kernel
theorem dX4_count_87 : decode cX4_count 87 = .ok (.getfield 7, 3) := by decide +kernel
theorem dX4_count_90 : decode cX4_count 90 = .ok (.iconst 2, 1) := by decide +kernel
theorem dX4_count_91 : decode cX4_count 91 = .ok (.iaload, 1) := by decide +kernel
theorem dX4_count_92 : decode cX4_count 92 = .ok (.ireturn, 1) := by decide +kernel
theorem dX4_count_93 : decode cX4_count 93 = .ok (.aload_n 0, 1) := by decide +kernel
theorem dX4_count_94 : decode cX4_count 94 = .ok (.iload_n 1, 1) := by decide +kernel
theorem dX4_count_95 : decode cX4_count 95 = .ok (.iconst 4, 1) := by decide +kernel
theorem dX4_count_96 : decode cX4_count 96 = .ok (.isub, 1) := by decide +kernel
theorem dX4_count_97 : decode cX4_count 97 = .ok (.invokevirtual 151, 3) := by decide +kernel
theorem dX4_count_100 : decode cX4_count 100 = .ok (.ireturn, 1) := by decide +kernel
theorem dX4_count_101 : decode cX4_count 101 = .ok (.aload_n 0, 1) := by decide +kernel
theorem dX4_count_102 : decode cX4_count 102 = .ok (.getfield 7, 3) := by decide +kernel
theorem dX4_count_105 : decode cX4_count 105 = .ok (.iconst 3, 1) := by decide +kernel
theorem dX4_count_106 : decode cX4_count 106 = .ok (.iaload, 1) := by decide +kernel
theorem dX4_count_107 : decode cX4_count 107 = .ok (.ireturn, 1) := by decide +kernel
theorem dX4_count_108 : decode cX4_count 108 = .ok (.aload_n 0, 1) := by decide +kernel
theorem dX4_count_109 : decode cX4_count 109 = .ok (.getfield 7, 3) := by decide +kernel
theorem dX4_count_112 : decode cX4_count 112 = .ok (.iconst 4, 1) := by decide +kernel
theorem dX4_count_113 : decode cX4_count 113 = .ok (.iaload, 1) := by decide +kernel
theorem dX4_count_114 : decode cX4_count 114 = .ok (.ireturn, 1) := by decide +kernel
theorem dX4_count_115 : decode cX4_count 115 = .ok (.aload_n 0, 1) := by decide +kernel
theorem dX4_count_116 : decode cX4_count 116 = .ok (.getfield 41, 3) := by decide +kernel
theorem dX4_count_119 : decode cX4_count 119 = .ok (.ireturn, 1) := by decide +kernel
theorem dX4_count_120 : decode cX4_count 120 = .ok (.aload_n 0, 1) := by decide +kernel
theorem dX4_count_121 : decode cX4_count 121 = .ok (.getfield 154, 3) := by decide +kernel
theorem dX4_count_124 : decode cX4_count 124 = .ok (.ireturn, 1) := by decide +kernel
theorem dX4_count_125 : decode cX4_count 125 = .ok (.ldc 40, 2) := by decide +kernel
theorem dX4_count_127 : decode cX4_count 127 = .ok (.ireturn, 1) := by decide +kernel
theorem dX4_undo_0 : decode cX4_undo 0 = .ok (.aload_n 0, 1) := by decide +kernel
theorem dX4_undo_1 : decode cX4_undo 1 = .ok (.getfield 41, 3) := by decide +kernel
theorem dX4_undo_4 : decode cX4_undo 4 = .ok (.ifCond .ne 6, 3) := by decide +kernel
theorem dX4_undo_7 : decode cX4_undo 7 = .ok (.ldc 60, 2) := by decide +kernel
theorem dX4_undo_9 : decode cX4_undo 9 = .ok (.ireturn, 1) := by decide +kernel
theorem dX4_undo_10 : decode cX4_undo 10 = .ok (.aload_n 0, 1) := by decide +kernel
theorem dX4_undo_11 : decode cX4_undo 11 = .ok (.dup, 1) := by decide +kernel
theorem dX4_undo_12 : decode cX4_undo 12 = .ok (.getfield 41, 3) := by decide +kernel
theorem dX4_undo_15 : decode cX4_undo 15 = .ok (.iconst 1, 1) := by decide +kernel
theorem dX4_undo_16 : decode cX4_undo 16 = .ok (.isub, 1) := by decide +kernel
theorem dX4_undo_17 : decode cX4_undo 17 = .ok (.putfield 41, 3) := by decide +kernel
theorem dX4_undo_20 : decode cX4_undo 20 = .ok (.iconst 0, 1) := by decide +kernel
theorem dX4_undo_21 : decode cX4_undo 21 = .ok (.istore_n 1, 1) := by decide +kernel
theorem dX4_undo_22 : decode cX4_undo 22 = .ok (.iload_n 1, 1) := by decide +kernel
theorem dX4_undo_23 : decode cX4_undo 23 = .ok (.sipush 813, 3) := by decide +kernel
theorem dX4_undo_26 : decode cX4_undo 26 = .ok (.if_icmp .ge 30, 3) := by decide +kernel
theorem dX4_undo_29 : decode cX4_undo 29 = .ok (.aload_n 0, 1) := by decide +kernel
theorem dX4_undo_30 : decode cX4_undo 30 = .ok (.getfield 7, 3) := by decide +kernel
theorem dX4_undo_33 : decode cX4_undo 33 = .ok (.iload_n 1, 1) := by decide +kernel
theorem dX4_undo_34 : decode cX4_undo 34 = .ok (.aload_n 0, 1) := by decide +kernel
theorem dX4_undo_35 : decode cX4_undo 35 = .ok (.getfield 13, 3) := by decide +kernel
theorem dX4_undo_38 : decode cX4_undo 38 = .ok (.sipush 813, 3) := by decide +kernel
theorem dX4_undo_41 : decode cX4_undo 41 = .ok (.aload_n 0, 1) := by decide +kernel
theorem dX4_undo_42 : decode cX4_undo 42 = .ok (.getfield 41, 3) := by decide +kernel
theorem dX4_undo_45 : decode cX4_undo 45 = .ok (.imul, 1) := by decide +kernel
theorem dX4_undo_46 : decode cX4_undo 46 = .ok (.iload_n 1, 1) := by decide +kernel
theorem dX4_undo_47 : decode cX4_undo 47 = .ok (.iadd, 1) := by decide +kernel
theorem dX4_undo_48 : decode cX4_undo 48 = .ok (.iaload, 1) := by decide +kernel
theorem dX4_undo_49 : decode cX4_undo 49 = .ok (.iastore, 1) := by decide +kernel
theorem dX4_undo_50 : decode cX4_undo 50 = .ok (.iinc 1 1, 3) := by decide +kernel
theorem dX4_undo_53 : decode cX4_undo 53 = .ok (.goto (-31), 3) := by decide +kernel
theorem dX4_undo_56 : decode cX4_undo 56 = .ok (.aload_n 0, 1) := by decide +kernel
theorem dX4_undo_57 : decode cX4_undo 57 = .ok (.getfield 41, 3) := by decide +kernel
theorem dX4_undo_60 : decode cX4_undo 60 = .ok (.ireturn, 1) := by decide +kernel
theorem dX4_type_0 : decode cX4_type 0 = .ok (.iload_n 1, 1) := by decide +kernel
theorem dX4_type_1 : decode cX4_type 1 = .ok (.bipush 32, 2) := by decide +kernel
theorem dX4_type_3 : decode cX4_type 3 = .ok (.bipush 126, 2) := by decide +kernel
theorem dX4_type_5 : decode cX4_type 5 = .ok (.invokestatic 33, 3) := by decide +kernel
theorem dX4_type_8 : decode cX4_type 8 = .ok (.ifCond .ne 6, 3) := by decide +kernel
theorem dX4_type_11 : decode cX4_type 11 = .ok (.ldc 40, 2) := by decide +kernel
theorem dX4_type_13 : decode cX4_type 13 = .ok (.ireturn, 1) := by decide +kernel
theorem dX4_type_14 : decode cX4_type 14 = .ok (.aload_n 0, 1) := by decide +kernel
theorem dX4_type_15 : decode cX4_type 15 = .ok (.getfield 154, 3) := by decide +kernel
theorem dX4_type_18 : decode cX4_type 18 = .ok (.bipush 60, 2) := by decide +kernel
theorem dX4_type_20 : decode cX4_type 20 = .ok (.if_icmp .ne 6, 3) := by decide +kernel
theorem dX4_type_23 : decode cX4_type 23 = .ok (.ldc 45, 2) := by decide +kernel
theorem dX4_type_25 : decode cX4_type 25 = .ok (.ireturn, 1) := by decide +kernel
theorem dX4_type_26 : decode cX4_type 26 = .ok (.aload_n 0, 1) := by decide +kernel
theorem dX4_type_27 : decode cX4_type 27 = .ok (.getfield 22, 3) := by decide +kernel
theorem dX4_type_30 : decode cX4_type 30 = .ok (.aload_n 0, 1) := by decide +kernel
theorem dX4_type_31 : decode cX4_type 31 = .ok (.getfield 154, 3) := by decide +kernel
theorem dX4_type_34 : decode cX4_type 34 = .ok (.iload_n 1, 1) := by decide +kernel
theorem dX4_type_35 : decode cX4_type 35 = .ok (.i2c, 1) := by decide +kernel
theorem dX4_type_36 : decode cX4_type 36 = .ok (.castore, 1) := by decide +kernel
theorem dX4_type_37 : decode cX4_type 37 = .ok (.aload_n 0, 1) := by decide +kernel
theorem dX4_type_38 : decode cX4_type 38 = .ok (.dup, 1) := by decide +kernel
theorem dX4_type_39 : decode cX4_type 39 = .ok (.getfield 154, 3) := by decide +kernel
theorem dX4_type_42 : decode cX4_type 42 = .ok (.iconst 1, 1) := by decide +kernel
theorem dX4_type_43 : decode cX4_type 43 = .ok (.iadd, 1) := by decide +kernel
theorem dX4_type_44 : decode cX4_type 44 = .ok (.putfield 154, 3) := by decide +kernel
theorem dX4_type_47 : decode cX4_type 47 = .ok (.aload_n 0, 1) := by decide +kernel
theorem dX4_type_48 : decode cX4_type 48 = .ok (.getfield 154, 3) := by decide +kernel
theorem dX4_type_51 : decode cX4_type 51 = .ok (.ireturn, 1) := by decide +kernel
theorem dX4_clearText_0 : decode cX4_clearText 0 = .ok (.aload_n 0, 1) := by decide +kernel
theorem dX4_clearText_1 : decode cX4_clearText 1 = .ok (.getfield 154, 3) := by decide +kernel
theorem dX4_clearText_4 : decode cX4_clearText 4 = .ok (.istore_n 1, 1) := by decide +kernel
theorem dX4_clearText_5 : decode cX4_clearText 5 = .ok (.aload_n 0, 1) := by decide +kernel
theorem dX4_clearText_6 : decode cX4_clearText 6 = .ok (.iconst 0, 1) := by decide +kernel
theorem dX4_clearText_7 : decode cX4_clearText 7 = .ok (.putfield 154, 3) := by decide +kernel
theorem dX4_clearText_10 : decode cX4_clearText 10 = .ok (.iload_n 1, 1) := by decide +kernel
theorem dX4_clearText_11 : decode cX4_clearText 11 = .ok (.ireturn, 1) := by decide +kernel
theorem dX4_has_0 : decode cX4_has 0 = .ok (.aload_n 0, 1) := by decide +kernel
theorem dX4_has_1 : decode cX4_has 1 = .ok (.getfield 157, 3) := by decide +kernel
theorem dX4_has_4 : decode cX4_has 4 = .ok (.aload_n 0, 1) := by decide +kernel
theorem dX4_has_5 : decode cX4_has 5 = .ok (.getfield 154, 3) := by decide +kernel
theorem dX4_has_8 : decode cX4_has 8 = .ok (.if_icmp .ge 20, 3) := by decide +kernel
theorem dX4_has_11 : decode cX4_has 11 = .ok (.aload_n 0, 1) := by decide +kernel
theorem dX4_has_12 : decode cX4_has 12 = .ok (.getfield 22, 3) := by decide +kernel
theorem dX4_has_15 : decode cX4_has 15 = .ok (.aload_n 0, 1) := by decide +kernel
theorem dX4_has_16 : decode cX4_has 16 = .ok (.getfield 157, 3) := by decide +kernel
theorem dX4_has_19 : decode cX4_has 19 = .ok (.caload, 1) := by decide +kernel
theorem dX4_has_20 : decode cX4_has 20 = .ok (.iload_n 1, 1) := by decide +kernel
theorem dX4_has_21 : decode cX4_has 21 = .ok (.if_icmp .ne 7, 3) := by decide +kernel
theorem dX4_has_24 : decode cX4_has 24 = .ok (.iconst 1, 1) := by decide +kernel
theorem dX4_has_25 : decode cX4_has 25 = .ok (.goto 4, 3) := by decide +kernel
theorem dX4_has_28 : decode cX4_has 28 = .ok (.iconst 0, 1) := by decide +kernel
theorem dX4_has_29 : decode cX4_has 29 = .ok (.istore_n 2, 1) := by decide +kernel
theorem dX4_has_30 : decode cX4_has 30 = .ok (.aload_n 0, 1) := by decide +kernel
theorem dX4_has_31 : decode cX4_has 31 = .ok (.dup, 1) := by decide +kernel
theorem dX4_has_32 : decode cX4_has 32 = .ok (.getfield 157, 3) := by decide +kernel
theorem dX4_has_35 : decode cX4_has 35 = .ok (.iload_n 2, 1) := by decide +kernel
theorem dX4_has_36 : decode cX4_has 36 = .ok (.ifCond .eq 7, 3) := by decide +kernel
theorem dX4_has_39 : decode cX4_has 39 = .ok (.iconst 1, 1) := by decide +kernel
theorem dX4_has_40 : decode cX4_has 40 = .ok (.goto 4, 3) := by decide +kernel
theorem dX4_has_43 : decode cX4_has 43 = .ok (.iconst 0, 1) := by decide +kernel
theorem dX4_has_44 : decode cX4_has 44 = .ok (.iadd, 1) := by decide +kernel
theorem dX4_has_45 : decode cX4_has 45 = .ok (.putfield 157, 3) := by decide +kernel
theorem dX4_has_48 : decode cX4_has 48 = .ok (.iload_n 2, 1) := by decide +kernel
theorem dX4_has_49 : decode cX4_has 49 = .ok (.ireturn, 1) := by decide +kernel
theorem dX4_number_0 : decode cX4_number 0 = .ok (.aload_n 0, 1) := by decide +kernel
theorem dX4_number_1 : decode cX4_number 1 = .ok (.getfield 157, 3) := by decide +kernel
theorem dX4_number_4 : decode cX4_number 4 = .ok (.istore_n 2, 1) := by decide +kernel
theorem dX4_number_5 : decode cX4_number 5 = .ok (.aload_n 0, 1) := by decide +kernel
theorem dX4_number_6 : decode cX4_number 6 = .ok (.getfield 26, 3) := by decide +kernel
theorem dX4_number_9 : decode cX4_number 9 = .ok (.iload_n 1, 1) := by decide +kernel
theorem dX4_number_10 : decode cX4_number 10 = .ok (.iconst 0, 1) := by decide +kernel
theorem dX4_number_11 : decode cX4_number 11 = .ok (.iastore, 1) := by decide +kernel
theorem dX4_number_12 : decode cX4_number 12 = .ok (.aload_n 0, 1) := by decide +kernel
theorem dX4_number_13 : decode cX4_number 13 = .ok (.getfield 157, 3) := by decide +kernel
theorem dX4_number_16 : decode cX4_number 16 = .ok (.aload_n 0, 1) := by decide +kernel
theorem dX4_number_17 : decode cX4_number 17 = .ok (.getfield 154, 3) := by decide +kernel
theorem dX4_number_20 : decode cX4_number 20 = .ok (.if_icmp .ge 73, 3) := by decide +kernel
theorem dX4_number_23 : decode cX4_number 23 = .ok (.aload_n 0, 1) := by decide +kernel
theorem dX4_number_24 : decode cX4_number 24 = .ok (.getfield 157, 3) := by decide +kernel
theorem dX4_number_27 : decode cX4_number 27 = .ok (.iload_n 2, 1) := by decide +kernel
theorem dX4_number_28 : decode cX4_number 28 = .ok (.iconst 2, 1) := by decide +kernel
theorem dX4_number_29 : decode cX4_number 29 = .ok (.iadd, 1) := by decide +kernel
theorem dX4_number_30 : decode cX4_number 30 = .ok (.if_icmp .ge 63, 3) := by decide +kernel
theorem dX4_number_33 : decode cX4_number 33 = .ok (.aload_n 0, 1) := by decide +kernel
theorem dX4_number_34 : decode cX4_number 34 = .ok (.getfield 22, 3) := by decide +kernel
theorem dX4_number_37 : decode cX4_number 37 = .ok (.aload_n 0, 1) := by decide +kernel
theorem dX4_number_38 : decode cX4_number 38 = .ok (.getfield 157, 3) := by decide +kernel
theorem dX4_number_41 : decode cX4_number 41 = .ok (.caload, 1) := by decide +kernel
theorem dX4_number_42 : decode cX4_number 42 = .ok (.bipush 48, 2) := by decide +kernel
theorem dX4_number_44 : decode cX4_number 44 = .ok (.bipush 57, 2) := by decide +kernel
theorem dX4_number_46 : decode cX4_number 46 = .ok (.invokestatic 33, 3) := by decide +kernel
theorem dX4_number_49 : decode cX4_number 49 = .ok (.ifCond .eq 44, 3) := by decide +kernel
theorem dX4_number_52 : decode cX4_number 52 = .ok (.aload_n 0, 1) := by decide +kernel
theorem dX4_number_53 : decode cX4_number 53 = .ok (.getfield 26, 3) := by decide +kernel
theorem dX4_number_56 : decode cX4_number 56 = .ok (.iload_n 1, 1) := by decide +kernel
theorem dX4_number_57 : decode cX4_number 57 = .ok (.bipush 10, 2) := by decide +kernel
theorem dX4_number_59 : decode cX4_number 59 = .ok (.aload_n 0, 1) := by decide +kernel
theorem dX4_number_60 : decode cX4_number 60 = .ok (.getfield 26, 3) := by decide +kernel
theorem dX4_number_63 : decode cX4_number 63 = .ok (.iload_n 1, 1) := by decide +kernel
theorem dX4_number_64 : decode cX4_number 64 = .ok (.iaload, 1) := by decide +kernel
theorem dX4_number_65 : decode cX4_number 65 = .ok (.imul, 1) := by decide +kernel
theorem dX4_number_66 : decode cX4_number 66 = .ok (.aload_n 0, 1) := by decide +kernel
theorem dX4_number_67 : decode cX4_number 67 = .ok (.getfield 22, 3) := by decide +kernel
theorem dX4_number_70 : decode cX4_number 70 = .ok (.aload_n 0, 1) := by decide +kernel
theorem dX4_number_71 : decode cX4_number 71 = .ok (.getfield 157, 3) := by decide +kernel
theorem dX4_number_74 : decode cX4_number 74 = .ok (.caload, 1) := by decide +kernel
theorem dX4_number_75 : decode cX4_number 75 = .ok (.iadd, 1) := by decide +kernel
theorem dX4_number_76 : decode cX4_number 76 = .ok (.bipush 48, 2) := by decide +kernel
theorem dX4_number_78 : decode cX4_number 78 = .ok (.isub, 1) := by decide +kernel
theorem dX4_number_79 : decode cX4_number 79 = .ok (.iastore, 1) := by decide +kernel
theorem dX4_number_80 : decode cX4_number 80 = .ok (.aload_n 0, 1) := by decide +kernel
theorem dX4_number_81 : decode cX4_number 81 = .ok (.dup, 1) := by decide +kernel
theorem dX4_number_82 : decode cX4_number 82 = .ok (.getfield 157, 3) := by decide +kernel
theorem dX4_number_85 : decode cX4_number 85 = .ok (.iconst 1, 1) := by decide +kernel
theorem dX4_number_86 : decode cX4_number 86 = .ok (.iadd, 1) := by decide +kernel
theorem dX4_number_87 : decode cX4_number 87 = .ok (.putfield 157, 3) := by decide +kernel
theorem dX4_number_90 : decode cX4_number 90 = .ok (.goto (-78), 3) := by decide +kernel
theorem dX4_number_93 : decode cX4_number 93 = .ok (.aload_n 0, 1) := by decide +kernel
theorem dX4_number_94 : decode cX4_number 94 = .ok (.getfield 157, 3) := by decide +kernel
theorem dX4_number_97 : decode cX4_number 97 = .ok (.iload_n 2, 1) := by decide +kernel
theorem dX4_number_98 : decode cX4_number 98 = .ok (.if_icmp .le 7, 3) := by decide +kernel
theorem dX4_number_101 : decode cX4_number 101 = .ok (.iconst 1, 1) := by decide +kernel
theorem dX4_number_102 : decode cX4_number 102 = .ok (.goto 4, 3) := by decide +kernel
theorem dX4_number_105 : decode cX4_number 105 = .ok (.iconst 0, 1) := by decide +kernel
theorem dX4_number_106 : decode cX4_number 106 = .ok (.ireturn, 1) := by decide +kernel
theorem dX4_readsForm_0 : decode cX4_readsForm 0 = .ok (.iload_n 1, 1) := by decide +kernel
theorem dX4_readsForm_1 : decode cX4_readsForm 1 = .ok (.bipush 116, 2) := by decide +kernel
theorem dX4_readsForm_3 : decode cX4_readsForm 3 = .ok (.if_icmp .ne 7, 3) := by decide +kernel
theorem dX4_readsForm_6 : decode cX4_readsForm 6 = .ok (.iconst 3, 1) := by decide +kernel
theorem dX4_readsForm_7 : decode cX4_readsForm 7 = .ok (.goto 42, 3) := by decide +kernel
theorem dX4_readsForm_10 : decode cX4_readsForm 10 = .ok (.iload_n 1, 1) := by decide +kernel
theorem dX4_readsForm_11 : decode cX4_readsForm 11 = .ok (.bipush 98, 2) := by decide +kernel
theorem dX4_readsForm_13 : decode cX4_readsForm 13 = .ok (.if_icmp .eq 9, 3) := by decide +kernel
theorem dX4_readsForm_16 : decode cX4_readsForm 16 = .ok (.iload_n 1, 1) := by decide +kernel
theorem dX4_readsForm_17 : decode cX4_readsForm 17 = .ok (.bipush 109, 2) := by decide +kernel
theorem dX4_readsForm_19 : decode cX4_readsForm 19 = .ok (.if_icmp .ne 7, 3) := by decide +kernel
theorem dX4_readsForm_22 : decode cX4_readsForm 22 = .ok (.iconst 2, 1) := by decide +kernel
theorem dX4_readsForm_23 : decode cX4_readsForm 23 = .ok (.goto 26, 3) := by decide +kernel
theorem dX4_readsForm_26 : decode cX4_readsForm 26 = .ok (.iload_n 1, 1) := by decide +kernel
theorem dX4_readsForm_27 : decode cX4_readsForm 27 = .ok (.bipush 115, 2) := by decide +kernel
theorem dX4_readsForm_29 : decode cX4_readsForm 29 = .ok (.if_icmp .eq 15, 3) := by decide +kernel
theorem dX4_readsForm_32 : decode cX4_readsForm 32 = .ok (.iload_n 1, 1) := by decide +kernel
theorem dX4_readsForm_33 : decode cX4_readsForm 33 = .ok (.bipush 119, 2) := by decide +kernel
theorem dX4_readsForm_35 : decode cX4_readsForm 35 = .ok (.if_icmp .eq 9, 3) := by decide +kernel
theorem dX4_readsForm_38 : decode cX4_readsForm 38 = .ok (.iload_n 1, 1) := by decide +kernel
theorem dX4_readsForm_39 : decode cX4_readsForm 39 = .ok (.bipush 110, 2) := by decide +kernel
theorem dX4_readsForm_41 : decode cX4_readsForm 41 = .ok (.if_icmp .ne 7, 3) := by decide +kernel
theorem dX4_readsForm_44 : decode cX4_readsForm 44 = .ok (.iconst 1, 1) := by decide +kernel
theorem dX4_readsForm_45 : decode cX4_readsForm 45 = .ok (.goto 4, 3) := by decide +kernel
theorem dX4_readsForm_48 : decode cX4_readsForm 48 = .ok (.iconst 0, 1) := by decide +kernel
theorem dX4_readsForm_49 : decode cX4_readsForm 49 = .ok (.istore_n 2, 1) := by decide +kernel
theorem dX4_readsForm_50 : decode cX4_readsForm 50 = .ok (.iload_n 2, 1) := by decide +kernel
theorem dX4_readsForm_51 : decode cX4_readsForm 51 = .ok (.ifCond .le 15, 3) := by decide +kernel
theorem dX4_readsForm_54 : decode cX4_readsForm 54 = .ok (.aload_n 0, 1) := by decide +kernel
theorem dX4_readsForm_55 : decode cX4_readsForm 55 = .ok (.iconst 0, 1) := by decide +kernel
theorem dX4_readsForm_56 : decode cX4_readsForm 56 = .ok (.invokevirtual 160, 3) := by decide +kernel
theorem dX4_readsForm_59 : decode cX4_readsForm 59 = .ok (.ifCond .eq 7, 3) := by decide +kernel
theorem dX4_readsForm_62 : decode cX4_readsForm 62 = .ok (.iconst 1, 1) := by decide +kernel
theorem dX4_readsForm_63 : decode cX4_readsForm 63 = .ok (.goto 4, 3) := by decide +kernel
theorem dX4_readsForm_66 : decode cX4_readsForm 66 = .ok (.iconst 0, 1) := by decide +kernel
theorem dX4_readsForm_67 : decode cX4_readsForm 67 = .ok (.istore_n 3, 1) := by decide +kernel
theorem dX4_readsForm_68 : decode cX4_readsForm 68 = .ok (.iconst 1, 1) := by decide +kernel
theorem dX4_readsForm_69 : decode cX4_readsForm 69 = .ok (.istore 4, 2) := by decide +kernel
theorem dX4_readsForm_71 : decode cX4_readsForm 71 = .ok (.iload 4, 2) := by decide +kernel
theorem dX4_readsForm_73 : decode cX4_readsForm 73 = .ok (.iload_n 2, 1) := by decide +kernel
theorem dX4_readsForm_74 : decode cX4_readsForm 74 = .ok (.if_icmp .ge 37, 3) := by decide +kernel
theorem dX4_readsForm_77 : decode cX4_readsForm 77 = .ok (.iload_n 3, 1) := by decide +kernel
theorem dX4_readsForm_78 : decode cX4_readsForm 78 = .ok (.ifCond .eq 33, 3) := by decide +kernel
theorem dX4_readsForm_81 : decode cX4_readsForm 81 = .ok (.aload_n 0, 1) := by decide +kernel
theorem dX4_readsForm_82 : decode cX4_readsForm 82 = .ok (.bipush 44, 2) := by decide +kernel
theorem dX4_readsForm_84 : decode cX4_readsForm 84 = .ok (.invokevirtual 163, 3) := by decide +kernel
theorem dX4_readsForm_87 : decode cX4_readsForm 87 = .ok (.ifCond .eq 16, 3) := by decide +kernel
theorem dX4_readsForm_90 : decode cX4_readsForm 90 = .ok (.aload_n 0, 1) := by decide +kernel
theorem dX4_readsForm_91 : decode cX4_readsForm 91 = .ok (.iload 4, 2) := by decide +kernel
theorem dX4_readsForm_93 : decode cX4_readsForm 93 = .ok (.invokevirtual 160, 3) := by decide +kernel
theorem dX4_readsForm_96 : decode cX4_readsForm 96 = .ok (.ifCond .eq 7, 3) := by decide +kernel
theorem dX4_readsForm_99 : decode cX4_readsForm 99 = .ok (.iconst 1, 1) := by decide +kernel
theorem dX4_readsForm_100 : decode cX4_readsForm 100 = .ok (.goto 4, 3) := by decide +kernel
theorem dX4_readsForm_103 : decode cX4_readsForm 103 = .ok (.iconst 0, 1) := by decide +kernel
theorem dX4_readsForm_104 : decode cX4_readsForm 104 = .ok (.istore_n 3, 1) := by decide +kernel
theorem dX4_readsForm_105 : decode cX4_readsForm 105 = .ok (.iinc 4 1, 3) := by decide +kernel
theorem dX4_readsForm_108 : decode cX4_readsForm 108 = .ok (.goto (-37), 3) := by decide +kernel
theorem dX4_readsForm_111 : decode cX4_readsForm 111 = .ok (.iload_n 3, 1) := by decide +kernel
theorem dX4_readsForm_112 : decode cX4_readsForm 112 = .ok (.ifCond .eq 16, 3) := by decide +kernel
theorem dX4_readsForm_115 : decode cX4_readsForm 115 = .ok (.aload_n 0, 1) := by decide +kernel
theorem dX4_readsForm_116 : decode cX4_readsForm 116 = .ok (.bipush 59, 2) := by decide +kernel
theorem dX4_readsForm_118 : decode cX4_readsForm 118 = .ok (.invokevirtual 163, 3) := by decide +kernel
theorem dX4_readsForm_121 : decode cX4_readsForm 121 = .ok (.ifCond .eq 7, 3) := by decide +kernel
theorem dX4_readsForm_124 : decode cX4_readsForm 124 = .ok (.iconst 1, 1) := by decide +kernel
theorem dX4_readsForm_125 : decode cX4_readsForm 125 = .ok (.goto 4, 3) := by decide +kernel
theorem dX4_readsForm_128 : decode cX4_readsForm 128 = .ok (.iconst 0, 1) := by decide +kernel
theorem dX4_readsForm_129 : decode cX4_readsForm 129 = .ok (.ireturn, 1) := by decide +kernel
theorem dX4_isThere_0 : decode cX4_isThere 0 = .ok (.iload_n 1, 1) := by decide +kernel
theorem dX4_isThere_1 : decode cX4_isThere 1 = .ok (.bipush 110, 2) := by decide +kernel
theorem dX4_isThere_3 : decode cX4_isThere 3 = .ok (.if_icmp .eq 16, 3) := by decide +kernel
theorem dX4_isThere_6 : decode cX4_isThere 6 = .ok (.aload_n 0, 1) := by decide +kernel
theorem dX4_isThere_7 : decode cX4_isThere 7 = .ok (.aload_n 0, 1) := by decide +kernel
theorem dX4_isThere_8 : decode cX4_isThere 8 = .ok (.getfield 26, 3) := by decide +kernel
theorem dX4_isThere_11 : decode cX4_isThere 11 = .ok (.iconst 0, 1) := by decide +kernel
theorem dX4_isThere_12 : decode cX4_isThere 12 = .ok (.iaload, 1) := by decide +kernel
theorem dX4_isThere_13 : decode cX4_isThere 13 = .ok (.invokevirtual 53, 3) := by decide +kernel
theorem dX4_isThere_16 : decode cX4_isThere 16 = .ok (.ifCond .eq 7, 3) := by decide +kernel
theorem dX4_isThere_19 : decode cX4_isThere 19 = .ok (.iconst 1, 1) := by decide +kernel
theorem dX4_isThere_20 : decode cX4_isThere 20 = .ok (.goto 4, 3) := by decide +kernel
theorem dX4_isThere_23 : decode cX4_isThere 23 = .ok (.iconst 0, 1) := by decide +kernel
theorem dX4_isThere_24 : decode cX4_isThere 24 = .ok (.istore_n 2, 1) := by decide +kernel
theorem dX4_isThere_25 : decode cX4_isThere 25 = .ok (.iload_n 1, 1) := by decide +kernel
theorem dX4_isThere_26 : decode cX4_isThere 26 = .ok (.bipush 109, 2) := by decide +kernel
theorem dX4_isThere_28 : decode cX4_isThere 28 = .ok (.if_icmp .ne 16, 3) := by decide +kernel
theorem dX4_isThere_31 : decode cX4_isThere 31 = .ok (.aload_n 0, 1) := by decide +kernel
theorem dX4_isThere_32 : decode cX4_isThere 32 = .ok (.aload_n 0, 1) := by decide +kernel
theorem dX4_isThere_33 : decode cX4_isThere 33 = .ok (.getfield 26, 3) := by decide +kernel
theorem dX4_isThere_36 : decode cX4_isThere 36 = .ok (.iconst 1, 1) := by decide +kernel
theorem dX4_isThere_37 : decode cX4_isThere 37 = .ok (.iaload, 1) := by decide +kernel
theorem dX4_isThere_38 : decode cX4_isThere 38 = .ok (.invokevirtual 53, 3) := by decide +kernel
theorem dX4_isThere_41 : decode cX4_isThere 41 = .ok (.goto 32, 3) := by decide +kernel
theorem dX4_isThere_44 : decode cX4_isThere 44 = .ok (.iload_n 1, 1) := by decide +kernel
theorem dX4_isThere_45 : decode cX4_isThere 45 = .ok (.bipush 116, 2) := by decide +kernel
theorem dX4_isThere_47 : decode cX4_isThere 47 = .ok (.if_icmp .eq 9, 3) := by decide +kernel
theorem dX4_isThere_50 : decode cX4_isThere 50 = .ok (.iload_n 1, 1) := by decide +kernel
theorem dX4_isThere_51 : decode cX4_isThere 51 = .ok (.bipush 98, 2) := by decide +kernel
theorem dX4_isThere_53 : decode cX4_isThere 53 = .ok (.if_icmp .ne 15, 3) := by decide +kernel
theorem dX4_isThere_56 : decode cX4_isThere 56 = .ok (.aload_n 0, 1) := by decide +kernel
theorem dX4_isThere_57 : decode cX4_isThere 57 = .ok (.getfield 26, 3) := by decide +kernel
theorem dX4_isThere_60 : decode cX4_isThere 60 = .ok (.iconst 1, 1) := by decide +kernel
theorem dX4_isThere_61 : decode cX4_isThere 61 = .ok (.iaload, 1) := by decide +kernel
theorem dX4_isThere_62 : decode cX4_isThere 62 = .ok (.invokestatic 88, 3) := by decide +kernel
theorem dX4_isThere_65 : decode cX4_isThere 65 = .ok (.ifCond .eq 7, 3) := by decide +kernel
theorem dX4_isThere_68 : decode cX4_isThere 68 = .ok (.iconst 1, 1) := by decide +kernel
theorem dX4_isThere_69 : decode cX4_isThere 69 = .ok (.goto 4, 3) := by decide +kernel
theorem dX4_isThere_72 : decode cX4_isThere 72 = .ok (.iconst 0, 1) := by decide +kernel
theorem dX4_isThere_73 : decode cX4_isThere 73 = .ok (.istore_n 3, 1) := by decide +kernel
theorem dX4_isThere_74 : decode cX4_isThere 74 = .ok (.iload_n 2, 1) := by decide +kernel
theorem dX4_isThere_75 : decode cX4_isThere 75 = .ok (.ifCond .eq 11, 3) := by decide +kernel
theorem dX4_isThere_78 : decode cX4_isThere 78 = .ok (.iload_n 3, 1) := by decide +kernel
theorem dX4_isThere_79 : decode cX4_isThere 79 = .ok (.ifCond .eq 7, 3) := by decide +kernel
theorem dX4_isThere_82 : decode cX4_isThere 82 = .ok (.iconst 1, 1) := by decide +kernel
theorem dX4_isThere_83 : decode cX4_isThere 83 = .ok (.goto 4, 3) := by decide +kernel
theorem dX4_isThere_86 : decode cX4_isThere 86 = .ok (.iconst 0, 1) := by decide +kernel
theorem dX4_isThere_87 : decode cX4_isThere 87 = .ok (.ireturn, 1) := by decide +kernel
theorem dX4_does_0 : decode cX4_does 0 = .ok (.iload_n 1, 1) := by decide +kernel
theorem dX4_does_1 : decode cX4_does 1 = .ok (.lookupswitch 131 #[(98, 75), (109, 92), (115, 109), (116, 51), (119, 120)], 51) := by decide +kernel
theorem dX4_does_52 : decode cX4_does 52 = .ok (.aload_n 0, 1) := by decide +kernel
theorem dX4_does_53 : decode cX4_does 53 = .ok (.aload_n 0, 1) := by decide +kernel
theorem dX4_does_54 : decode cX4_does 54 = .ok (.getfield 26, 3) := by decide +kernel
theorem dX4_does_57 : decode cX4_does 57 = .ok (.iconst 0, 1) := by decide +kernel
theorem dX4_does_58 : decode cX4_does 58 = .ok (.iaload, 1) := by decide +kernel
theorem dX4_does_59 : decode cX4_does 59 = .ok (.aload_n 0, 1) := by decide +kernel
theorem dX4_does_60 : decode cX4_does 60 = .ok (.getfield 26, 3) := by decide +kernel
theorem dX4_does_63 : decode cX4_does 63 = .ok (.iconst 1, 1) := by decide +kernel
theorem dX4_does_64 : decode cX4_does 64 = .ok (.iaload, 1) := by decide +kernel
theorem dX4_does_65 : decode cX4_does 65 = .ok (.aload_n 0, 1) := by decide +kernel
theorem dX4_does_66 : decode cX4_does 66 = .ok (.getfield 26, 3) := by decide +kernel
theorem dX4_does_69 : decode cX4_does 69 = .ok (.iconst 2, 1) := by decide +kernel
theorem dX4_does_70 : decode cX4_does 70 = .ok (.iaload, 1) := by decide +kernel
theorem dX4_does_71 : decode cX4_does 71 = .ok (.iconst 0, 1) := by decide +kernel
theorem dX4_does_72 : decode cX4_does 72 = .ok (.invokevirtual 95, 3) := by decide +kernel
theorem dX4_does_75 : decode cX4_does 75 = .ok (.ireturn, 1) := by decide +kernel
theorem dX4_does_76 : decode cX4_does 76 = .ok (.aload_n 0, 1) := by decide +kernel
theorem dX4_does_77 : decode cX4_does 77 = .ok (.aload_n 0, 1) := by decide +kernel
theorem dX4_does_78 : decode cX4_does 78 = .ok (.getfield 26, 3) := by decide +kernel
theorem dX4_does_81 : decode cX4_does 81 = .ok (.iconst 0, 1) := by decide +kernel
theorem dX4_does_82 : decode cX4_does 82 = .ok (.iaload, 1) := by decide +kernel
theorem dX4_does_83 : decode cX4_does 83 = .ok (.aload_n 0, 1) := by decide +kernel
theorem dX4_does_84 : decode cX4_does 84 = .ok (.getfield 26, 3) := by decide +kernel
theorem dX4_does_87 : decode cX4_does 87 = .ok (.iconst 1, 1) := by decide +kernel
theorem dX4_does_88 : decode cX4_does 88 = .ok (.iaload, 1) := by decide +kernel
theorem dX4_does_89 : decode cX4_does 89 = .ok (.invokevirtual 99, 3) := by decide +kernel
theorem dX4_does_92 : decode cX4_does 92 = .ok (.ireturn, 1) := by decide +kernel
theorem dX4_does_93 : decode cX4_does 93 = .ok (.aload_n 0, 1) := by decide +kernel
theorem dX4_does_94 : decode cX4_does 94 = .ok (.aload_n 0, 1) := by decide +kernel
theorem dX4_does_95 : decode cX4_does 95 = .ok (.getfield 26, 3) := by decide +kernel
theorem dX4_does_98 : decode cX4_does 98 = .ok (.iconst 0, 1) := by decide +kernel
theorem dX4_does_99 : decode cX4_does 99 = .ok (.iaload, 1) := by decide +kernel
theorem dX4_does_100 : decode cX4_does 100 = .ok (.aload_n 0, 1) := by decide +kernel
theorem dX4_does_101 : decode cX4_does 101 = .ok (.getfield 26, 3) := by decide +kernel
theorem dX4_does_104 : decode cX4_does 104 = .ok (.iconst 1, 1) := by decide +kernel
theorem dX4_does_105 : decode cX4_does 105 = .ok (.iaload, 1) := by decide +kernel
theorem dX4_does_106 : decode cX4_does 106 = .ok (.invokevirtual 117, 3) := by decide +kernel
theorem dX4_does_109 : decode cX4_does 109 = .ok (.ireturn, 1) := by decide +kernel
theorem dX4_does_110 : decode cX4_does 110 = .ok (.aload_n 0, 1) := by decide +kernel
theorem dX4_does_111 : decode cX4_does 111 = .ok (.aload_n 0, 1) := by decide +kernel
theorem dX4_does_112 : decode cX4_does 112 = .ok (.getfield 26, 3) := by decide +kernel
theorem dX4_does_115 : decode cX4_does 115 = .ok (.iconst 0, 1) := by decide +kernel
theorem dX4_does_116 : decode cX4_does 116 = .ok (.iaload, 1) := by decide +kernel
theorem dX4_does_117 : decode cX4_does 117 = .ok (.invokevirtual 64, 3) := by decide +kernel
theorem dX4_does_120 : decode cX4_does 120 = .ok (.ireturn, 1) := by decide +kernel
theorem dX4_does_121 : decode cX4_does 121 = .ok (.aload_n 0, 1) := by decide +kernel
theorem dX4_does_122 : decode cX4_does 122 = .ok (.aload_n 0, 1) := by decide +kernel
theorem dX4_does_123 : decode cX4_does 123 = .ok (.getfield 26, 3) := by decide +kernel
theorem dX4_does_126 : decode cX4_does 126 = .ok (.iconst 0, 1) := by decide +kernel
theorem dX4_does_127 : decode cX4_does 127 = .ok (.iaload, 1) := by decide +kernel
theorem dX4_does_128 : decode cX4_does 128 = .ok (.invokevirtual 67, 3) := by decide +kernel
theorem dX4_does_131 : decode cX4_does 131 = .ok (.ireturn, 1) := by decide +kernel
theorem dX4_does_132 : decode cX4_does 132 = .ok (.aload_n 0, 1) := by decide +kernel
theorem dX4_does_133 : decode cX4_does 133 = .ok (.aload_n 0, 1) := by decide +kernel
theorem dX4_does_134 : decode cX4_does 134 = .ok (.getfield 26, 3) := by decide +kernel
theorem dX4_does_137 : decode cX4_does 137 = .ok (.iconst 0, 1) := by decide +kernel
theorem dX4_does_138 : decode cX4_does 138 = .ok (.iaload, 1) := by decide +kernel
theorem dX4_does_139 : decode cX4_does 139 = .ok (.invokevirtual 132, 3) := by decide +kernel
theorem dX4_does_142 : decode cX4_does 142 = .ok (.ireturn, 1) := by decide +kernel
theorem dX4_doesNext_0 : decode cX4_doesNext 0 = .ok (.aload_n 0, 1) := by decide +kernel
theorem dX4_doesNext_1 : decode cX4_doesNext 1 = .ok (.getfield 22, 3) := by decide +kernel
theorem dX4_doesNext_4 : decode cX4_doesNext 4 = .ok (.aload_n 0, 1) := by decide +kernel
theorem dX4_doesNext_5 : decode cX4_doesNext 5 = .ok (.getfield 157, 3) := by decide +kernel
theorem dX4_doesNext_8 : decode cX4_doesNext 8 = .ok (.caload, 1) := by decide +kernel
theorem dX4_doesNext_9 : decode cX4_doesNext 9 = .ok (.istore_n 1, 1) := by decide +kernel
theorem dX4_doesNext_10 : decode cX4_doesNext 10 = .ok (.aload_n 0, 1) := by decide +kernel
theorem dX4_doesNext_11 : decode cX4_doesNext 11 = .ok (.dup, 1) := by decide +kernel
theorem dX4_doesNext_12 : decode cX4_doesNext 12 = .ok (.getfield 157, 3) := by decide +kernel
theorem dX4_doesNext_15 : decode cX4_doesNext 15 = .ok (.iconst 1, 1) := by decide +kernel
theorem dX4_doesNext_16 : decode cX4_doesNext 16 = .ok (.iadd, 1) := by decide +kernel
theorem dX4_doesNext_17 : decode cX4_doesNext 17 = .ok (.putfield 157, 3) := by decide +kernel
theorem dX4_doesNext_20 : decode cX4_doesNext 20 = .ok (.aload_n 0, 1) := by decide +kernel
theorem dX4_doesNext_21 : decode cX4_doesNext 21 = .ok (.iload_n 1, 1) := by decide +kernel
theorem dX4_doesNext_22 : decode cX4_doesNext 22 = .ok (.invokevirtual 167, 3) := by decide +kernel
theorem dX4_doesNext_25 : decode cX4_doesNext 25 = .ok (.ifCond .ne 5, 3) := by decide +kernel
theorem dX4_doesNext_28 : decode cX4_doesNext 28 = .ok (.iconst 1, 1) := by decide +kernel
theorem dX4_doesNext_29 : decode cX4_doesNext 29 = .ok (.ireturn, 1) := by decide +kernel
theorem dX4_doesNext_30 : decode cX4_doesNext 30 = .ok (.aload_n 0, 1) := by decide +kernel
theorem dX4_doesNext_31 : decode cX4_doesNext 31 = .ok (.iload_n 1, 1) := by decide +kernel
theorem dX4_doesNext_32 : decode cX4_doesNext 32 = .ok (.invokevirtual 170, 3) := by decide +kernel
theorem dX4_doesNext_35 : decode cX4_doesNext 35 = .ok (.ifCond .ne 7, 3) := by decide +kernel
theorem dX4_doesNext_38 : decode cX4_doesNext 38 = .ok (.iconst 2, 1) := by decide +kernel
theorem dX4_doesNext_39 : decode cX4_doesNext 39 = .ok (.goto 18, 3) := by decide +kernel
theorem dX4_doesNext_42 : decode cX4_doesNext 42 = .ok (.aload_n 0, 1) := by decide +kernel
theorem dX4_doesNext_43 : decode cX4_doesNext 43 = .ok (.iload_n 1, 1) := by decide +kernel
theorem dX4_doesNext_44 : decode cX4_doesNext 44 = .ok (.invokevirtual 173, 3) := by decide +kernel
theorem dX4_doesNext_47 : decode cX4_doesNext 47 = .ok (.ldc 40, 2) := by decide +kernel
theorem dX4_doesNext_49 : decode cX4_doesNext 49 = .ok (.if_icmp .gt 7, 3) := by decide +kernel
theorem dX4_doesNext_52 : decode cX4_doesNext 52 = .ok (.iconst 3, 1) := by decide +kernel
theorem dX4_doesNext_53 : decode cX4_doesNext 53 = .ok (.goto 4, 3) := by decide +kernel
theorem dX4_doesNext_56 : decode cX4_doesNext 56 = .ok (.iconst 0, 1) := by decide +kernel
theorem dX4_doesNext_57 : decode cX4_doesNext 57 = .ok (.ireturn, 1) := by decide +kernel
theorem dX4_faulty_0 : decode cX4_faulty 0 = .ok (.aload_n 0, 1) := by decide +kernel
theorem dX4_faulty_1 : decode cX4_faulty 1 = .ok (.invokevirtual 135, 3) := by decide +kernel
theorem dX4_faulty_4 : decode cX4_faulty 4 = .ok (.ldc 80, 2) := by decide +kernel
theorem dX4_faulty_6 : decode cX4_faulty 6 = .ok (.istore_n 1, 1) := by decide +kernel
theorem dX4_faulty_7 : decode cX4_faulty 7 = .ok (.aload_n 0, 1) := by decide +kernel
theorem dX4_faulty_8 : decode cX4_faulty 8 = .ok (.iconst 0, 1) := by decide +kernel
theorem dX4_faulty_9 : decode cX4_faulty 9 = .ok (.putfield 157, 3) := by decide +kernel
theorem dX4_faulty_12 : decode cX4_faulty 12 = .ok (.aload_n 0, 1) := by decide +kernel
theorem dX4_faulty_13 : decode cX4_faulty 13 = .ok (.getfield 157, 3) := by decide +kernel
theorem dX4_faulty_16 : decode cX4_faulty 16 = .ok (.aload_n 0, 1) := by decide +kernel
theorem dX4_faulty_17 : decode cX4_faulty 17 = .ok (.getfield 154, 3) := by decide +kernel
theorem dX4_faulty_20 : decode cX4_faulty 20 = .ok (.if_icmp .ge 38, 3) := by decide +kernel
theorem dX4_faulty_23 : decode cX4_faulty 23 = .ok (.iload_n 1, 1) := by decide +kernel
theorem dX4_faulty_24 : decode cX4_faulty 24 = .ok (.ldc 80, 2) := by decide +kernel
theorem dX4_faulty_26 : decode cX4_faulty 26 = .ok (.if_icmp .ne 32, 3) := by decide +kernel
theorem dX4_faulty_29 : decode cX4_faulty 29 = .ok (.aload_n 0, 1) := by decide +kernel
theorem dX4_faulty_30 : decode cX4_faulty 30 = .ok (.getfield 157, 3) := by decide +kernel
theorem dX4_faulty_33 : decode cX4_faulty 33 = .ok (.istore_n 2, 1) := by decide +kernel
theorem dX4_faulty_34 : decode cX4_faulty 34 = .ok (.aload_n 0, 1) := by decide +kernel
theorem dX4_faulty_35 : decode cX4_faulty 35 = .ok (.aload_n 0, 1) := by decide +kernel
theorem dX4_faulty_36 : decode cX4_faulty 36 = .ok (.invokevirtual 177, 3) := by decide +kernel
theorem dX4_faulty_39 : decode cX4_faulty 39 = .ok (.putfield 180, 3) := by decide +kernel
theorem dX4_faulty_42 : decode cX4_faulty 42 = .ok (.aload_n 0, 1) := by decide +kernel
theorem dX4_faulty_43 : decode cX4_faulty 43 = .ok (.getfield 180, 3) := by decide +kernel
theorem dX4_faulty_46 : decode cX4_faulty 46 = .ok (.ifCond .le 7, 3) := by decide +kernel
theorem dX4_faulty_49 : decode cX4_faulty 49 = .ok (.iload_n 2, 1) := by decide +kernel
theorem dX4_faulty_50 : decode cX4_faulty 50 = .ok (.goto 4, 3) := by decide +kernel
theorem dX4_faulty_53 : decode cX4_faulty 53 = .ok (.iload_n 1, 1) := by decide +kernel
theorem dX4_faulty_54 : decode cX4_faulty 54 = .ok (.istore_n 1, 1) := by decide +kernel
theorem dX4_faulty_55 : decode cX4_faulty 55 = .ok (.goto (-43), 3) := by decide +kernel
theorem dX4_faulty_58 : decode cX4_faulty 58 = .ok (.aload_n 0, 1) := by decide +kernel
theorem dX4_faulty_59 : decode cX4_faulty 59 = .ok (.invokevirtual 138, 3) := by decide +kernel
theorem dX4_faulty_62 : decode cX4_faulty 62 = .ok (.iload_n 1, 1) := by decide +kernel
theorem dX4_faulty_63 : decode cX4_faulty 63 = .ok (.ireturn, 1) := by decide +kernel
theorem dX4_fault_0 : decode cX4_fault 0 = .ok (.iload_n 1, 1) := by decide +kernel
theorem dX4_fault_1 : decode cX4_fault 1 = .ok (.iconst 0, 1) := by decide +kernel
theorem dX4_fault_2 : decode cX4_fault 2 = .ok (.iconst 1, 1) := by decide +kernel
theorem dX4_fault_3 : decode cX4_fault 3 = .ok (.invokestatic 33, 3) := by decide +kernel
theorem dX4_fault_6 : decode cX4_fault 6 = .ok (.ifCond .ne 6, 3) := by decide +kernel
theorem dX4_fault_9 : decode cX4_fault 9 = .ok (.ldc 40, 2) := by decide +kernel
theorem dX4_fault_11 : decode cX4_fault 11 = .ok (.ireturn, 1) := by decide +kernel
theorem dX4_fault_12 : decode cX4_fault 12 = .ok (.aload_n 0, 1) := by decide +kernel
theorem dX4_fault_13 : decode cX4_fault 13 = .ok (.invokevirtual 183, 3) := by decide +kernel
theorem dX4_fault_16 : decode cX4_fault 16 = .ok (.istore_n 2, 1) := by decide +kernel
theorem dX4_fault_17 : decode cX4_fault 17 = .ok (.iload_n 2, 1) := by decide +kernel
theorem dX4_fault_18 : decode cX4_fault 18 = .ok (.ldc 80, 2) := by decide +kernel
theorem dX4_fault_20 : decode cX4_fault 20 = .ok (.if_icmp .eq 7, 3) := by decide +kernel
theorem dX4_fault_23 : decode cX4_fault 23 = .ok (.iload_n 1, 1) := by decide +kernel
theorem dX4_fault_24 : decode cX4_fault 24 = .ok (.ifCond .ne 7, 3) := by decide +kernel
theorem dX4_fault_27 : decode cX4_fault 27 = .ok (.iload_n 2, 1) := by decide +kernel
theorem dX4_fault_28 : decode cX4_fault 28 = .ok (.goto 7, 3) := by decide +kernel
theorem dX4_fault_31 : decode cX4_fault 31 = .ok (.aload_n 0, 1) := by decide +kernel
theorem dX4_fault_32 : decode cX4_fault 32 = .ok (.getfield 180, 3) := by decide +kernel
theorem dX4_fault_35 : decode cX4_fault 35 = .ok (.ireturn, 1) := by decide +kernel
theorem dX4_play_0 : decode cX4_play 0 = .ok (.aload_n 0, 1) := by decide +kernel
theorem dX4_play_1 : decode cX4_play 1 = .ok (.invokevirtual 183, 3) := by decide +kernel
theorem dX4_play_4 : decode cX4_play 4 = .ok (.ldc 80, 2) := by decide +kernel
theorem dX4_play_6 : decode cX4_play 6 = .ok (.if_icmp .eq 6, 3) := by decide +kernel
theorem dX4_play_9 : decode cX4_play 9 = .ok (.ldc 60, 2) := by decide +kernel
theorem dX4_play_11 : decode cX4_play 11 = .ok (.ireturn, 1) := by decide +kernel
theorem dX4_play_12 : decode cX4_play 12 = .ok (.aload_n 0, 1) := by decide +kernel
theorem dX4_play_13 : decode cX4_play 13 = .ok (.invokevirtual 46, 3) := by decide +kernel
theorem dX4_play_16 : decode cX4_play 16 = .ok (.iconst 0, 1) := by decide +kernel
theorem dX4_play_17 : decode cX4_play 17 = .ok (.istore_n 1, 1) := by decide +kernel
theorem dX4_play_18 : decode cX4_play 18 = .ok (.aload_n 0, 1) := by decide +kernel
theorem dX4_play_19 : decode cX4_play 19 = .ok (.iconst 0, 1) := by decide +kernel
theorem dX4_play_20 : decode cX4_play 20 = .ok (.putfield 157, 3) := by decide +kernel
theorem dX4_play_23 : decode cX4_play 23 = .ok (.aload_n 0, 1) := by decide +kernel
theorem dX4_play_24 : decode cX4_play 24 = .ok (.getfield 157, 3) := by decide +kernel
theorem dX4_play_27 : decode cX4_play 27 = .ok (.aload_n 0, 1) := by decide +kernel
theorem dX4_play_28 : decode cX4_play 28 = .ok (.getfield 154, 3) := by decide +kernel
theorem dX4_play_31 : decode cX4_play 31 = .ok (.if_icmp .ge 21, 3) := by decide +kernel
theorem dX4_play_34 : decode cX4_play 34 = .ok (.iload_n 1, 1) := by decide +kernel
theorem dX4_play_35 : decode cX4_play 35 = .ok (.aload_n 0, 1) := by decide +kernel
theorem dX4_play_36 : decode cX4_play 36 = .ok (.invokevirtual 177, 3) := by decide +kernel
theorem dX4_play_39 : decode cX4_play 39 = .ok (.ifCond .ne 7, 3) := by decide +kernel
theorem dX4_play_42 : decode cX4_play 42 = .ok (.iconst 1, 1) := by decide +kernel
theorem dX4_play_43 : decode cX4_play 43 = .ok (.goto 4, 3) := by decide +kernel
theorem dX4_play_46 : decode cX4_play 46 = .ok (.iconst 0, 1) := by decide +kernel
theorem dX4_play_47 : decode cX4_play 47 = .ok (.iadd, 1) := by decide +kernel
theorem dX4_play_48 : decode cX4_play 48 = .ok (.istore_n 1, 1) := by decide +kernel
theorem dX4_play_49 : decode cX4_play 49 = .ok (.goto (-26), 3) := by decide +kernel
theorem dX4_play_52 : decode cX4_play 52 = .ok (.aload_n 0, 1) := by decide +kernel
theorem dX4_play_53 : decode cX4_play 53 = .ok (.iload_n 1, 1) := by decide +kernel
theorem dX4_play_54 : decode cX4_play 54 = .ok (.invokevirtual 49, 3) := by decide +kernel
theorem dX4_play_57 : decode cX4_play 57 = .ok (.ireturn, 1) := by decide +kernel
end
section
theorem dL_law_0 : decode cL_law 0 = .ok (.new 7, 3) := by decide +kernel
theorem dL_law_3 : decode cL_law 3 = .ok (.dup, 1) := by decide +kernel
theorem dL_law_4 : decode cL_law 4 = .ok (.invokespecial 9, 3) := by decide +kernel
theorem dL_law_7 : decode cL_law 7 = .ok (.astore_n 1, 1) := by decide +kernel
theorem dL_law_8 : decode cL_law 8 = .ok (.new 10, 3) := by decide +kernel
theorem dL_law_11 : decode cL_law 11 = .ok (.dup, 1) := by decide +kernel
theorem dL_law_12 : decode cL_law 12 = .ok (.invokespecial 12, 3) := by decide +kernel
theorem dL_law_15 : decode cL_law 15 = .ok (.astore_n 2, 1) := by decide +kernel
theorem dL_law_16 : decode cL_law 16 = .ok (.iconst 0, 1) := by decide +kernel
theorem dL_law_17 : decode cL_law 17 = .ok (.istore_n 3, 1) := by decide +kernel
theorem dL_law_18 : decode cL_law 18 = .ok (.iload_n 3, 1) := by decide +kernel
theorem dL_law_19 : decode cL_law 19 = .ok (.aload_n 0, 1) := by decide +kernel
theorem dL_law_20 : decode cL_law 20 = .ok (.arraylength, 1) := by decide +kernel
theorem dL_law_21 : decode cL_law 21 = .ok (.iconst 5, 1) := by decide +kernel
theorem dL_law_22 : decode cL_law 22 = .ok (.isub, 1) := by decide +kernel
theorem dL_law_23 : decode cL_law 23 = .ok (.if_icmp .gt 712, 3) := by decide +kernel
theorem dL_law_26 : decode cL_law 26 = .ok (.aload_n 0, 1) := by decide +kernel
theorem dL_law_27 : decode cL_law 27 = .ok (.iload_n 3, 1) := by decide +kernel
theorem dL_law_28 : decode cL_law 28 = .ok (.iaload, 1) := by decide +kernel
theorem dL_law_29 : decode cL_law 29 = .ok (.bipush 31, 2) := by decide +kernel
theorem dL_law_31 : decode cL_law 31 = .ok (.iand, 1) := by decide +kernel
theorem dL_law_32 : decode cL_law 32 = .ok (.tableswitch 697 0 22 #[108, 121, 144, 167, 190, 213, 246, 299, 332, 365, 408, 431, 454, 487, 510, 553, 576, 589, 612, 625, 648, 661, 684], 108) := by decide +kernel
theorem dL_law_140 : decode cL_law 140 = .ok (.aload_n 1, 1) := by decide +kernel
theorem dL_law_141 : decode cL_law 141 = .ok (.invokevirtual 13, 3) := by decide +kernel
theorem dL_law_144 : decode cL_law 144 = .ok (.aload_n 2, 1) := by decide +kernel
theorem dL_law_145 : decode cL_law 145 = .ok (.invokevirtual 17, 3) := by decide +kernel
theorem dL_law_148 : decode cL_law 148 = .ok (.if_icmp .eq 581, 3) := by decide +kernel
theorem dL_law_151 : decode cL_law 151 = .ok (.iconst 0, 1) := by decide +kernel
theorem dL_law_152 : decode cL_law 152 = .ok (.ireturn, 1) := by decide +kernel
theorem dL_law_153 : decode cL_law 153 = .ok (.aload_n 1, 1) := by decide +kernel
theorem dL_law_154 : decode cL_law 154 = .ok (.aload_n 0, 1) := by decide +kernel
theorem dL_law_155 : decode cL_law 155 = .ok (.iload_n 3, 1) := by decide +kernel
theorem dL_law_156 : decode cL_law 156 = .ok (.iconst 1, 1) := by decide +kernel
theorem dL_law_157 : decode cL_law 157 = .ok (.iadd, 1) := by decide +kernel
theorem dL_law_158 : decode cL_law 158 = .ok (.iaload, 1) := by decide +kernel
theorem dL_law_159 : decode cL_law 159 = .ok (.invokevirtual 18, 3) := by decide +kernel
theorem dL_law_162 : decode cL_law 162 = .ok (.aload_n 2, 1) := by decide +kernel
theorem dL_law_163 : decode cL_law 163 = .ok (.aload_n 0, 1) := by decide +kernel
theorem dL_law_164 : decode cL_law 164 = .ok (.iload_n 3, 1) := by decide +kernel
theorem dL_law_165 : decode cL_law 165 = .ok (.iconst 1, 1) := by decide +kernel
theorem dL_law_166 : decode cL_law 166 = .ok (.iadd, 1) := by decide +kernel
theorem dL_law_167 : decode cL_law 167 = .ok (.iaload, 1) := by decide +kernel
theorem dL_law_168 : decode cL_law 168 = .ok (.invokevirtual 22, 3) := by decide +kernel
theorem dL_law_171 : decode cL_law 171 = .ok (.if_icmp .eq 558, 3) := by decide +kernel
theorem dL_law_174 : decode cL_law 174 = .ok (.iconst 0, 1) := by decide +kernel
theorem dL_law_175 : decode cL_law 175 = .ok (.ireturn, 1) := by decide +kernel
theorem dL_law_176 : decode cL_law 176 = .ok (.aload_n 1, 1) := by decide +kernel
theorem dL_law_177 : decode cL_law 177 = .ok (.aload_n 0, 1) := by decide +kernel
theorem dL_law_178 : decode cL_law 178 = .ok (.iload_n 3, 1) := by decide +kernel
theorem dL_law_179 : decode cL_law 179 = .ok (.iconst 1, 1) := by decide +kernel
theorem dL_law_180 : decode cL_law 180 = .ok (.iadd, 1) := by decide +kernel
theorem dL_law_181 : decode cL_law 181 = .ok (.iaload, 1) := by decide +kernel
theorem dL_law_182 : decode cL_law 182 = .ok (.invokevirtual 23, 3) := by decide +kernel
theorem dL_law_185 : decode cL_law 185 = .ok (.aload_n 2, 1) := by decide +kernel
theorem dL_law_186 : decode cL_law 186 = .ok (.aload_n 0, 1) := by decide +kernel
theorem dL_law_187 : decode cL_law 187 = .ok (.iload_n 3, 1) := by decide +kernel
theorem dL_law_188 : decode cL_law 188 = .ok (.iconst 1, 1) := by decide +kernel
theorem dL_law_189 : decode cL_law 189 = .ok (.iadd, 1) := by decide +kernel
theorem dL_law_190 : decode cL_law 190 = .ok (.iaload, 1) := by decide +kernel
theorem dL_law_191 : decode cL_law 191 = .ok (.invokevirtual 26, 3) := by decide +kernel
theorem dL_law_194 : decode cL_law 194 = .ok (.if_icmp .eq 535, 3) := by decide +kernel
theorem dL_law_197 : decode cL_law 197 = .ok (.iconst 0, 1) := by decide +kernel
theorem dL_law_198 : decode cL_law 198 = .ok (.ireturn, 1) := by decide +kernel
theorem dL_law_199 : decode cL_law 199 = .ok (.aload_n 1, 1) := by decide +kernel
theorem dL_law_200 : decode cL_law 200 = .ok (.aload_n 0, 1) := by decide +kernel
theorem dL_law_201 : decode cL_law 201 = .ok (.iload_n 3, 1) := by decide +kernel
theorem dL_law_202 : decode cL_law 202 = .ok (.iconst 1, 1) := by decide +kernel
theorem dL_law_203 : decode cL_law 203 = .ok (.iadd, 1) := by decide +kernel
theorem dL_law_204 : decode cL_law 204 = .ok (.iaload, 1) := by decide +kernel
theorem dL_law_205 : decode cL_law 205 = .ok (.invokevirtual 27, 3) := by decide +kernel
theorem dL_law_208 : decode cL_law 208 = .ok (.aload_n 2, 1) := by decide +kernel
theorem dL_law_209 : decode cL_law 209 = .ok (.aload_n 0, 1) := by decide +kernel
theorem dL_law_210 : decode cL_law 210 = .ok (.iload_n 3, 1) := by decide +kernel
theorem dL_law_211 : decode cL_law 211 = .ok (.iconst 1, 1) := by decide +kernel
theorem dL_law_212 : decode cL_law 212 = .ok (.iadd, 1) := by decide +kernel
theorem dL_law_213 : decode cL_law 213 = .ok (.iaload, 1) := by decide +kernel
theorem dL_law_214 : decode cL_law 214 = .ok (.invokevirtual 30, 3) := by decide +kernel
theorem dL_law_217 : decode cL_law 217 = .ok (.if_icmp .eq 512, 3) := by decide +kernel
theorem dL_law_220 : decode cL_law 220 = .ok (.iconst 0, 1) := by decide +kernel
theorem dL_law_221 : decode cL_law 221 = .ok (.ireturn, 1) := by decide +kernel
theorem dL_law_222 : decode cL_law 222 = .ok (.aload_n 1, 1) := by decide +kernel
theorem dL_law_223 : decode cL_law 223 = .ok (.aload_n 0, 1) := by decide +kernel
theorem dL_law_224 : decode cL_law 224 = .ok (.iload_n 3, 1) := by decide +kernel
theorem dL_law_225 : decode cL_law 225 = .ok (.iconst 1, 1) := by decide +kernel
theorem dL_law_226 : decode cL_law 226 = .ok (.iadd, 1) := by decide +kernel
theorem dL_law_227 : decode cL_law 227 = .ok (.iaload, 1) := by decide +kernel
theorem dL_law_228 : decode cL_law 228 = .ok (.invokevirtual 31, 3) := by decide +kernel
theorem dL_law_231 : decode cL_law 231 = .ok (.aload_n 2, 1) := by decide +kernel
theorem dL_law_232 : decode cL_law 232 = .ok (.aload_n 0, 1) := by decide +kernel
theorem dL_law_233 : decode cL_law 233 = .ok (.iload_n 3, 1) := by decide +kernel
theorem dL_law_234 : decode cL_law 234 = .ok (.iconst 1, 1) := by decide +kernel
theorem dL_law_235 : decode cL_law 235 = .ok (.iadd, 1) := by decide +kernel
theorem dL_law_236 : decode cL_law 236 = .ok (.iaload, 1) := by decide +kernel
theorem dL_law_237 : decode cL_law 237 = .ok (.invokevirtual 34, 3) := by decide +kernel
theorem dL_law_240 : decode cL_law 240 = .ok (.if_icmp .eq 489, 3) := by decide +kernel
theorem dL_law_243 : decode cL_law 243 = .ok (.iconst 0, 1) := by decide +kernel
theorem dL_law_244 : decode cL_law 244 = .ok (.ireturn, 1) := by decide +kernel
theorem dL_law_245 : decode cL_law 245 = .ok (.aload_n 1, 1) := by decide +kernel
theorem dL_law_246 : decode cL_law 246 = .ok (.aload_n 0, 1) := by decide +kernel
theorem dL_law_247 : decode cL_law 247 = .ok (.iload_n 3, 1) := by decide +kernel
theorem dL_law_248 : decode cL_law 248 = .ok (.iconst 1, 1) := by decide +kernel
theorem dL_law_249 : decode cL_law 249 = .ok (.iadd, 1) := by decide +kernel
theorem dL_law_250 : decode cL_law 250 = .ok (.iaload, 1) := by decide +kernel
theorem dL_law_251 : decode cL_law 251 = .ok (.aload_n 0, 1) := by decide +kernel
theorem dL_law_252 : decode cL_law 252 = .ok (.iload_n 3, 1) := by decide +kernel
theorem dL_law_253 : decode cL_law 253 = .ok (.iconst 2, 1) := by decide +kernel
theorem dL_law_254 : decode cL_law 254 = .ok (.iadd, 1) := by decide +kernel
theorem dL_law_255 : decode cL_law 255 = .ok (.iaload, 1) := by decide +kernel
theorem dL_law_256 : decode cL_law 256 = .ok (.invokevirtual 35, 3) := by decide +kernel
theorem dL_law_259 : decode cL_law 259 = .ok (.aload_n 2, 1) := by decide +kernel
theorem dL_law_260 : decode cL_law 260 = .ok (.aload_n 0, 1) := by decide +kernel
theorem dL_law_261 : decode cL_law 261 = .ok (.iload_n 3, 1) := by decide +kernel
theorem dL_law_262 : decode cL_law 262 = .ok (.iconst 1, 1) := by decide +kernel
theorem dL_law_263 : decode cL_law 263 = .ok (.iadd, 1) := by decide +kernel
theorem dL_law_264 : decode cL_law 264 = .ok (.iaload, 1) := by decide +kernel
theorem dL_law_265 : decode cL_law 265 = .ok (.aload_n 0, 1) := by decide +kernel
theorem dL_law_266 : decode cL_law 266 = .ok (.iload_n 3, 1) := by decide +kernel
theorem dL_law_267 : decode cL_law 267 = .ok (.iconst 2, 1) := by decide +kernel
theorem dL_law_268 : decode cL_law 268 = .ok (.iadd, 1) := by decide +kernel
theorem dL_law_269 : decode cL_law 269 = .ok (.iaload, 1) := by decide +kernel
theorem dL_law_270 : decode cL_law 270 = .ok (.invokevirtual 39, 3) := by decide +kernel
theorem dL_law_273 : decode cL_law 273 = .ok (.if_icmp .eq 456, 3) := by decide +kernel
theorem dL_law_276 : decode cL_law 276 = .ok (.iconst 0, 1) := by decide +kernel
theorem dL_law_277 : decode cL_law 277 = .ok (.ireturn, 1) := by decide +kernel
theorem dL_law_278 : decode cL_law 278 = .ok (.aload_n 1, 1) := by decide +kernel
theorem dL_law_279 : decode cL_law 279 = .ok (.aload_n 0, 1) := by decide +kernel
theorem dL_law_280 : decode cL_law 280 = .ok (.iload_n 3, 1) := by decide +kernel
theorem dL_law_281 : decode cL_law 281 = .ok (.iconst 1, 1) := by decide +kernel
theorem dL_law_282 : decode cL_law 282 = .ok (.iadd, 1) := by decide +kernel
theorem dL_law_283 : decode cL_law 283 = .ok (.iaload, 1) := by decide +kernel
theorem dL_law_284 : decode cL_law 284 = .ok (.aload_n 0, 1) := by decide +kernel
theorem dL_law_285 : decode cL_law 285 = .ok (.iload_n 3, 1) := by decide +kernel
theorem dL_law_286 : decode cL_law 286 = .ok (.iconst 2, 1) := by decide +kernel
theorem dL_law_287 : decode cL_law 287 = .ok (.iadd, 1) := by decide +kernel
theorem dL_law_288 : decode cL_law 288 = .ok (.iaload, 1) := by decide +kernel
theorem dL_law_289 : decode cL_law 289 = .ok (.aload_n 0, 1) := by decide +kernel
theorem dL_law_290 : decode cL_law 290 = .ok (.iload_n 3, 1) := by decide +kernel
theorem dL_law_291 : decode cL_law 291 = .ok (.iconst 3, 1) := by decide +kernel
theorem dL_law_292 : decode cL_law 292 = .ok (.iadd, 1) := by decide +kernel
theorem dL_law_293 : decode cL_law 293 = .ok (.iaload, 1) := by decide +kernel
theorem dL_law_294 : decode cL_law 294 = .ok (.aload_n 0, 1) := by decide +kernel
theorem dL_law_295 : decode cL_law 295 = .ok (.iload_n 3, 1) := by decide +kernel
theorem dL_law_296 : decode cL_law 296 = .ok (.iconst 4, 1) := by decide +kernel
theorem dL_law_297 : decode cL_law 297 = .ok (.iadd, 1) := by decide +kernel
theorem dL_law_298 : decode cL_law 298 = .ok (.iaload, 1) := by decide +kernel
theorem dL_law_299 : decode cL_law 299 = .ok (.invokevirtual 40, 3) := by decide +kernel
theorem dL_law_302 : decode cL_law 302 = .ok (.aload_n 2, 1) := by decide +kernel
theorem dL_law_303 : decode cL_law 303 = .ok (.aload_n 0, 1) := by decide +kernel
theorem dL_law_304 : decode cL_law 304 = .ok (.iload_n 3, 1) := by decide +kernel
theorem dL_law_305 : decode cL_law 305 = .ok (.iconst 1, 1) := by decide +kernel
theorem dL_law_306 : decode cL_law 306 = .ok (.iadd, 1) := by decide +kernel
theorem dL_law_307 : decode cL_law 307 = .ok (.iaload, 1) := by decide +kernel
theorem dL_law_308 : decode cL_law 308 = .ok (.aload_n 0, 1) := by decide +kernel
theorem dL_law_309 : decode cL_law 309 = .ok (.iload_n 3, 1) := by decide +kernel
theorem dL_law_310 : decode cL_law 310 = .ok (.iconst 2, 1) := by decide +kernel
theorem dL_law_311 : decode cL_law 311 = .ok (.iadd, 1) := by decide +kernel
theorem dL_law_312 : decode cL_law 312 = .ok (.iaload, 1) := by decide +kernel
theorem dL_law_313 : decode cL_law 313 = .ok (.aload_n 0, 1) := by decide +kernel
theorem dL_law_314 : decode cL_law 314 = .ok (.iload_n 3, 1) := by decide +kernel
theorem dL_law_315 : decode cL_law 315 = .ok (.iconst 3, 1) := by decide +kernel
theorem dL_law_316 : decode cL_law 316 = .ok (.iadd, 1) := by decide +kernel
theorem dL_law_317 : decode cL_law 317 = .ok (.iaload, 1) := by decide +kernel
theorem dL_law_318 : decode cL_law 318 = .ok (.aload_n 0, 1) := by decide +kernel
theorem dL_law_319 : decode cL_law 319 = .ok (.iload_n 3, 1) := by decide +kernel
theorem dL_law_320 : decode cL_law 320 = .ok (.iconst 4, 1) := by decide +kernel
theorem dL_law_321 : decode cL_law 321 = .ok (.iadd, 1) := by decide +kernel
theorem dL_law_322 : decode cL_law 322 = .ok (.iaload, 1) := by decide +kernel
theorem dL_law_323 : decode cL_law 323 = .ok (.invokevirtual 44, 3) := by decide +kernel
theorem dL_law_326 : decode cL_law 326 = .ok (.if_icmp .eq 403, 3) := by decide +kernel
theorem dL_law_329 : decode cL_law 329 = .ok (.iconst 0, 1) := by decide +kernel
theorem dL_law_330 : decode cL_law 330 = .ok (.ireturn, 1) := by decide +kernel
theorem dL_law_331 : decode cL_law 331 = .ok (.aload_n 1, 1) := by decide +kernel
theorem dL_law_332 : decode cL_law 332 = .ok (.aload_n 0, 1) := by decide +kernel
theorem dL_law_333 : decode cL_law 333 = .ok (.iload_n 3, 1) := by decide +kernel
theorem dL_law_334 : decode cL_law 334 = .ok (.iconst 1, 1) := by decide +kernel
theorem dL_law_335 : decode cL_law 335 = .ok (.iadd, 1) := by decide +kernel
theorem dL_law_336 : decode cL_law 336 = .ok (.iaload, 1) := by decide +kernel
theorem dL_law_337 : decode cL_law 337 = .ok (.aload_n 0, 1) := by decide +kernel
theorem dL_law_338 : decode cL_law 338 = .ok (.iload_n 3, 1) := by decide +kernel
theorem dL_law_339 : decode cL_law 339 = .ok (.iconst 2, 1) := by decide +kernel
theorem dL_law_340 : decode cL_law 340 = .ok (.iadd, 1) := by decide +kernel
theorem dL_law_341 : decode cL_law 341 = .ok (.iaload, 1) := by decide +kernel
theorem dL_law_342 : decode cL_law 342 = .ok (.invokevirtual 45, 3) := by decide +kernel
theorem dL_law_345 : decode cL_law 345 = .ok (.aload_n 2, 1) := by decide +kernel
theorem dL_law_346 : decode cL_law 346 = .ok (.aload_n 0, 1) := by decide +kernel
theorem dL_law_347 : decode cL_law 347 = .ok (.iload_n 3, 1) := by decide +kernel
theorem dL_law_348 : decode cL_law 348 = .ok (.iconst 1, 1) := by decide +kernel
theorem dL_law_349 : decode cL_law 349 = .ok (.iadd, 1) := by decide +kernel
theorem dL_law_350 : decode cL_law 350 = .ok (.iaload, 1) := by decide +kernel
theorem dL_law_351 : decode cL_law 351 = .ok (.aload_n 0, 1) := by decide +kernel
theorem dL_law_352 : decode cL_law 352 = .ok (.iload_n 3, 1) := by decide +kernel
theorem dL_law_353 : decode cL_law 353 = .ok (.iconst 2, 1) := by decide +kernel
theorem dL_law_354 : decode cL_law 354 = .ok (.iadd, 1) := by decide +kernel
theorem dL_law_355 : decode cL_law 355 = .ok (.iaload, 1) := by decide +kernel
theorem dL_law_356 : decode cL_law 356 = .ok (.invokevirtual 48, 3) := by decide +kernel
theorem dL_law_359 : decode cL_law 359 = .ok (.if_icmp .eq 370, 3) := by decide +kernel
theorem dL_law_362 : decode cL_law 362 = .ok (.iconst 0, 1) := by decide +kernel
theorem dL_law_363 : decode cL_law 363 = .ok (.ireturn, 1) := by decide +kernel
theorem dL_law_364 : decode cL_law 364 = .ok (.aload_n 1, 1) := by decide +kernel
theorem dL_law_365 : decode cL_law 365 = .ok (.aload_n 0, 1) := by decide +kernel
theorem dL_law_366 : decode cL_law 366 = .ok (.iload_n 3, 1) := by decide +kernel
theorem dL_law_367 : decode cL_law 367 = .ok (.iconst 1, 1) := by decide +kernel
theorem dL_law_368 : decode cL_law 368 = .ok (.iadd, 1) := by decide +kernel
theorem dL_law_369 : decode cL_law 369 = .ok (.iaload, 1) := by decide +kernel
theorem dL_law_370 : decode cL_law 370 = .ok (.aload_n 0, 1) := by decide +kernel
theorem dL_law_371 : decode cL_law 371 = .ok (.iload_n 3, 1) := by decide +kernel
theorem dL_law_372 : decode cL_law 372 = .ok (.iconst 2, 1) := by decide +kernel
theorem dL_law_373 : decode cL_law 373 = .ok (.iadd, 1) := by decide +kernel
theorem dL_law_374 : decode cL_law 374 = .ok (.iaload, 1) := by decide +kernel
theorem dL_law_375 : decode cL_law 375 = .ok (.invokevirtual 49, 3) := by decide +kernel
theorem dL_law_378 : decode cL_law 378 = .ok (.aload_n 2, 1) := by decide +kernel
theorem dL_law_379 : decode cL_law 379 = .ok (.aload_n 0, 1) := by decide +kernel
theorem dL_law_380 : decode cL_law 380 = .ok (.iload_n 3, 1) := by decide +kernel
theorem dL_law_381 : decode cL_law 381 = .ok (.iconst 1, 1) := by decide +kernel
theorem dL_law_382 : decode cL_law 382 = .ok (.iadd, 1) := by decide +kernel
theorem dL_law_383 : decode cL_law 383 = .ok (.iaload, 1) := by decide +kernel
theorem dL_law_384 : decode cL_law 384 = .ok (.aload_n 0, 1) := by decide +kernel
theorem dL_law_385 : decode cL_law 385 = .ok (.iload_n 3, 1) := by decide +kernel
theorem dL_law_386 : decode cL_law 386 = .ok (.iconst 2, 1) := by decide +kernel
theorem dL_law_387 : decode cL_law 387 = .ok (.iadd, 1) := by decide +kernel
theorem dL_law_388 : decode cL_law 388 = .ok (.iaload, 1) := by decide +kernel
theorem dL_law_389 : decode cL_law 389 = .ok (.invokevirtual 52, 3) := by decide +kernel
theorem dL_law_392 : decode cL_law 392 = .ok (.if_icmp .eq 337, 3) := by decide +kernel
theorem dL_law_395 : decode cL_law 395 = .ok (.iconst 0, 1) := by decide +kernel
theorem dL_law_396 : decode cL_law 396 = .ok (.ireturn, 1) := by decide +kernel
theorem dL_law_397 : decode cL_law 397 = .ok (.aload_n 1, 1) := by decide +kernel
theorem dL_law_398 : decode cL_law 398 = .ok (.aload_n 0, 1) := by decide +kernel
theorem dL_law_399 : decode cL_law 399 = .ok (.iload_n 3, 1) := by decide +kernel
theorem dL_law_400 : decode cL_law 400 = .ok (.iconst 1, 1) := by decide +kernel
theorem dL_law_401 : decode cL_law 401 = .ok (.iadd, 1) := by decide +kernel
theorem dL_law_402 : decode cL_law 402 = .ok (.iaload, 1) := by decide +kernel
theorem dL_law_403 : decode cL_law 403 = .ok (.aload_n 0, 1) := by decide +kernel
theorem dL_law_404 : decode cL_law 404 = .ok (.iload_n 3, 1) := by decide +kernel
theorem dL_law_405 : decode cL_law 405 = .ok (.iconst 2, 1) := by decide +kernel
theorem dL_law_406 : decode cL_law 406 = .ok (.iadd, 1) := by decide +kernel
theorem dL_law_407 : decode cL_law 407 = .ok (.iaload, 1) := by decide +kernel
theorem dL_law_408 : decode cL_law 408 = .ok (.aload_n 0, 1) := by decide +kernel
theorem dL_law_409 : decode cL_law 409 = .ok (.iload_n 3, 1) := by decide +kernel
theorem dL_law_410 : decode cL_law 410 = .ok (.iconst 3, 1) := by decide +kernel
theorem dL_law_411 : decode cL_law 411 = .ok (.iadd, 1) := by decide +kernel
theorem dL_law_412 : decode cL_law 412 = .ok (.iaload, 1) := by decide +kernel
theorem dL_law_413 : decode cL_law 413 = .ok (.invokevirtual 53, 3) := by decide +kernel
theorem dL_law_416 : decode cL_law 416 = .ok (.aload_n 2, 1) := by decide +kernel
theorem dL_law_417 : decode cL_law 417 = .ok (.aload_n 0, 1) := by decide +kernel
theorem dL_law_418 : decode cL_law 418 = .ok (.iload_n 3, 1) := by decide +kernel
theorem dL_law_419 : decode cL_law 419 = .ok (.iconst 1, 1) := by decide +kernel
theorem dL_law_420 : decode cL_law 420 = .ok (.iadd, 1) := by decide +kernel
theorem dL_law_421 : decode cL_law 421 = .ok (.iaload, 1) := by decide +kernel
theorem dL_law_422 : decode cL_law 422 = .ok (.aload_n 0, 1) := by decide +kernel
theorem dL_law_423 : decode cL_law 423 = .ok (.iload_n 3, 1) := by decide +kernel
theorem dL_law_424 : decode cL_law 424 = .ok (.iconst 2, 1) := by decide +kernel
theorem dL_law_425 : decode cL_law 425 = .ok (.iadd, 1) := by decide +kernel
theorem dL_law_426 : decode cL_law 426 = .ok (.iaload, 1) := by decide +kernel
theorem dL_law_427 : decode cL_law 427 = .ok (.aload_n 0, 1) := by decide +kernel
theorem dL_law_428 : decode cL_law 428 = .ok (.iload_n 3, 1) := by decide +kernel
theorem dL_law_429 : decode cL_law 429 = .ok (.iconst 3, 1) := by decide +kernel
theorem dL_law_430 : decode cL_law 430 = .ok (.iadd, 1) := by decide +kernel
theorem dL_law_431 : decode cL_law 431 = .ok (.iaload, 1) := by decide +kernel
theorem dL_law_432 : decode cL_law 432 = .ok (.invokevirtual 57, 3) := by decide +kernel
theorem dL_law_435 : decode cL_law 435 = .ok (.if_icmp .eq 294, 3) := by decide +kernel
theorem dL_law_438 : decode cL_law 438 = .ok (.iconst 0, 1) := by decide +kernel
theorem dL_law_439 : decode cL_law 439 = .ok (.ireturn, 1) := by decide +kernel
theorem dL_law_440 : decode cL_law 440 = .ok (.aload_n 1, 1) := by decide +kernel
theorem dL_law_441 : decode cL_law 441 = .ok (.aload_n 0, 1) := by decide +kernel
theorem dL_law_442 : decode cL_law 442 = .ok (.iload_n 3, 1) := by decide +kernel
theorem dL_law_443 : decode cL_law 443 = .ok (.iconst 1, 1) := by decide +kernel
theorem dL_law_444 : decode cL_law 444 = .ok (.iadd, 1) := by decide +kernel
theorem dL_law_445 : decode cL_law 445 = .ok (.iaload, 1) := by decide +kernel
theorem dL_law_446 : decode cL_law 446 = .ok (.invokevirtual 58, 3) := by decide +kernel
theorem dL_law_449 : decode cL_law 449 = .ok (.aload_n 2, 1) := by decide +kernel
theorem dL_law_450 : decode cL_law 450 = .ok (.aload_n 0, 1) := by decide +kernel
theorem dL_law_451 : decode cL_law 451 = .ok (.iload_n 3, 1) := by decide +kernel
theorem dL_law_452 : decode cL_law 452 = .ok (.iconst 1, 1) := by decide +kernel
theorem dL_law_453 : decode cL_law 453 = .ok (.iadd, 1) := by decide +kernel
theorem dL_law_454 : decode cL_law 454 = .ok (.iaload, 1) := by decide +kernel
theorem dL_law_455 : decode cL_law 455 = .ok (.invokevirtual 61, 3) := by decide +kernel
theorem dL_law_458 : decode cL_law 458 = .ok (.if_icmp .eq 271, 3) := by decide +kernel
theorem dL_law_461 : decode cL_law 461 = .ok (.iconst 0, 1) := by decide +kernel
theorem dL_law_462 : decode cL_law 462 = .ok (.ireturn, 1) := by decide +kernel
theorem dL_law_463 : decode cL_law 463 = .ok (.aload_n 1, 1) := by decide +kernel
theorem dL_law_464 : decode cL_law 464 = .ok (.aload_n 0, 1) := by decide +kernel
theorem dL_law_465 : decode cL_law 465 = .ok (.iload_n 3, 1) := by decide +kernel
theorem dL_law_466 : decode cL_law 466 = .ok (.iconst 1, 1) := by decide +kernel
theorem dL_law_467 : decode cL_law 467 = .ok (.iadd, 1) := by decide +kernel
theorem dL_law_468 : decode cL_law 468 = .ok (.iaload, 1) := by decide +kernel
theorem dL_law_469 : decode cL_law 469 = .ok (.invokevirtual 62, 3) := by decide +kernel
theorem dL_law_472 : decode cL_law 472 = .ok (.aload_n 2, 1) := by decide +kernel
theorem dL_law_473 : decode cL_law 473 = .ok (.aload_n 0, 1) := by decide +kernel
theorem dL_law_474 : decode cL_law 474 = .ok (.iload_n 3, 1) := by decide +kernel
theorem dL_law_475 : decode cL_law 475 = .ok (.iconst 1, 1) := by decide +kernel
theorem dL_law_476 : decode cL_law 476 = .ok (.iadd, 1) := by decide +kernel
theorem dL_law_477 : decode cL_law 477 = .ok (.iaload, 1) := by decide +kernel
theorem dL_law_478 : decode cL_law 478 = .ok (.invokevirtual 65, 3) := by decide +kernel
theorem dL_law_481 : decode cL_law 481 = .ok (.if_icmp .eq 248, 3) := by decide +kernel
theorem dL_law_484 : decode cL_law 484 = .ok (.iconst 0, 1) := by decide +kernel
theorem dL_law_485 : decode cL_law 485 = .ok (.ireturn, 1) := by decide +kernel
theorem dL_law_486 : decode cL_law 486 = .ok (.aload_n 1, 1) := by decide +kernel
theorem dL_law_487 : decode cL_law 487 = .ok (.aload_n 0, 1) := by decide +kernel
theorem dL_law_488 : decode cL_law 488 = .ok (.iload_n 3, 1) := by decide +kernel
theorem dL_law_489 : decode cL_law 489 = .ok (.iconst 1, 1) := by decide +kernel
theorem dL_law_490 : decode cL_law 490 = .ok (.iadd, 1) := by decide +kernel
theorem dL_law_491 : decode cL_law 491 = .ok (.iaload, 1) := by decide +kernel
theorem dL_law_492 : decode cL_law 492 = .ok (.aload_n 0, 1) := by decide +kernel
theorem dL_law_493 : decode cL_law 493 = .ok (.iload_n 3, 1) := by decide +kernel
theorem dL_law_494 : decode cL_law 494 = .ok (.iconst 2, 1) := by decide +kernel
theorem dL_law_495 : decode cL_law 495 = .ok (.iadd, 1) := by decide +kernel
theorem dL_law_496 : decode cL_law 496 = .ok (.iaload, 1) := by decide +kernel
theorem dL_law_497 : decode cL_law 497 = .ok (.invokevirtual 66, 3) := by decide +kernel
theorem dL_law_500 : decode cL_law 500 = .ok (.aload_n 2, 1) := by decide +kernel
theorem dL_law_501 : decode cL_law 501 = .ok (.aload_n 0, 1) := by decide +kernel
theorem dL_law_502 : decode cL_law 502 = .ok (.iload_n 3, 1) := by decide +kernel
theorem dL_law_503 : decode cL_law 503 = .ok (.iconst 1, 1) := by decide +kernel
theorem dL_law_504 : decode cL_law 504 = .ok (.iadd, 1) := by decide +kernel
theorem dL_law_505 : decode cL_law 505 = .ok (.iaload, 1) := by decide +kernel
theorem dL_law_506 : decode cL_law 506 = .ok (.aload_n 0, 1) := by decide +kernel
theorem dL_law_507 : decode cL_law 507 = .ok (.iload_n 3, 1) := by decide +kernel
theorem dL_law_508 : decode cL_law 508 = .ok (.iconst 2, 1) := by decide +kernel
theorem dL_law_509 : decode cL_law 509 = .ok (.iadd, 1) := by decide +kernel
theorem dL_law_510 : decode cL_law 510 = .ok (.iaload, 1) := by decide +kernel
theorem dL_law_511 : decode cL_law 511 = .ok (.invokevirtual 69, 3) := by decide +kernel
theorem dL_law_514 : decode cL_law 514 = .ok (.if_icmp .eq 215, 3) := by decide +kernel
theorem dL_law_517 : decode cL_law 517 = .ok (.iconst 0, 1) := by decide +kernel
theorem dL_law_518 : decode cL_law 518 = .ok (.ireturn, 1) := by decide +kernel
theorem dL_law_519 : decode cL_law 519 = .ok (.aload_n 1, 1) := by decide +kernel
theorem dL_law_520 : decode cL_law 520 = .ok (.aload_n 0, 1) := by decide +kernel
theorem dL_law_521 : decode cL_law 521 = .ok (.iload_n 3, 1) := by decide +kernel
theorem dL_law_522 : decode cL_law 522 = .ok (.iconst 1, 1) := by decide +kernel
theorem dL_law_523 : decode cL_law 523 = .ok (.iadd, 1) := by decide +kernel
theorem dL_law_524 : decode cL_law 524 = .ok (.iaload, 1) := by decide +kernel
theorem dL_law_525 : decode cL_law 525 = .ok (.invokevirtual 70, 3) := by decide +kernel
theorem dL_law_528 : decode cL_law 528 = .ok (.aload_n 2, 1) := by decide +kernel
theorem dL_law_529 : decode cL_law 529 = .ok (.aload_n 0, 1) := by decide +kernel
theorem dL_law_530 : decode cL_law 530 = .ok (.iload_n 3, 1) := by decide +kernel
theorem dL_law_531 : decode cL_law 531 = .ok (.iconst 1, 1) := by decide +kernel
theorem dL_law_532 : decode cL_law 532 = .ok (.iadd, 1) := by decide +kernel
theorem dL_law_533 : decode cL_law 533 = .ok (.iaload, 1) := by decide +kernel
theorem dL_law_534 : decode cL_law 534 = .ok (.invokevirtual 73, 3) := by decide +kernel
theorem dL_law_537 : decode cL_law 537 = .ok (.if_icmp .eq 192, 3) := by decide +kernel
theorem dL_law_540 : decode cL_law 540 = .ok (.iconst 0, 1) := by decide +kernel
theorem dL_law_541 : decode cL_law 541 = .ok (.ireturn, 1) := by decide +kernel
theorem dL_law_542 : decode cL_law 542 = .ok (.aload_n 1, 1) := by decide +kernel
theorem dL_law_543 : decode cL_law 543 = .ok (.aload_n 0, 1) := by decide +kernel
theorem dL_law_544 : decode cL_law 544 = .ok (.iload_n 3, 1) := by decide +kernel
theorem dL_law_545 : decode cL_law 545 = .ok (.iconst 1, 1) := by decide +kernel
theorem dL_law_546 : decode cL_law 546 = .ok (.iadd, 1) := by decide +kernel
theorem dL_law_547 : decode cL_law 547 = .ok (.iaload, 1) := by decide +kernel
theorem dL_law_548 : decode cL_law 548 = .ok (.aload_n 0, 1) := by decide +kernel
theorem dL_law_549 : decode cL_law 549 = .ok (.iload_n 3, 1) := by decide +kernel
theorem dL_law_550 : decode cL_law 550 = .ok (.iconst 2, 1) := by decide +kernel
theorem dL_law_551 : decode cL_law 551 = .ok (.iadd, 1) := by decide +kernel
theorem dL_law_552 : decode cL_law 552 = .ok (.iaload, 1) := by decide +kernel
theorem dL_law_553 : decode cL_law 553 = .ok (.aload_n 0, 1) := by decide +kernel
theorem dL_law_554 : decode cL_law 554 = .ok (.iload_n 3, 1) := by decide +kernel
theorem dL_law_555 : decode cL_law 555 = .ok (.iconst 3, 1) := by decide +kernel
theorem dL_law_556 : decode cL_law 556 = .ok (.iadd, 1) := by decide +kernel
theorem dL_law_557 : decode cL_law 557 = .ok (.iaload, 1) := by decide +kernel
theorem dL_law_558 : decode cL_law 558 = .ok (.invokevirtual 74, 3) := by decide +kernel
theorem dL_law_561 : decode cL_law 561 = .ok (.aload_n 2, 1) := by decide +kernel
theorem dL_law_562 : decode cL_law 562 = .ok (.aload_n 0, 1) := by decide +kernel
theorem dL_law_563 : decode cL_law 563 = .ok (.iload_n 3, 1) := by decide +kernel
theorem dL_law_564 : decode cL_law 564 = .ok (.iconst 1, 1) := by decide +kernel
theorem dL_law_565 : decode cL_law 565 = .ok (.iadd, 1) := by decide +kernel
theorem dL_law_566 : decode cL_law 566 = .ok (.iaload, 1) := by decide +kernel
theorem dL_law_567 : decode cL_law 567 = .ok (.aload_n 0, 1) := by decide +kernel
theorem dL_law_568 : decode cL_law 568 = .ok (.iload_n 3, 1) := by decide +kernel
theorem dL_law_569 : decode cL_law 569 = .ok (.iconst 2, 1) := by decide +kernel
theorem dL_law_570 : decode cL_law 570 = .ok (.iadd, 1) := by decide +kernel
theorem dL_law_571 : decode cL_law 571 = .ok (.iaload, 1) := by decide +kernel
theorem dL_law_572 : decode cL_law 572 = .ok (.aload_n 0, 1) := by decide +kernel
theorem dL_law_573 : decode cL_law 573 = .ok (.iload_n 3, 1) := by decide +kernel
theorem dL_law_574 : decode cL_law 574 = .ok (.iconst 3, 1) := by decide +kernel
theorem dL_law_575 : decode cL_law 575 = .ok (.iadd, 1) := by decide +kernel
theorem dL_law_576 : decode cL_law 576 = .ok (.iaload, 1) := by decide +kernel
theorem dL_law_577 : decode cL_law 577 = .ok (.invokevirtual 77, 3) := by decide +kernel
theorem dL_law_580 : decode cL_law 580 = .ok (.if_icmp .eq 149, 3) := by decide +kernel
theorem dL_law_583 : decode cL_law 583 = .ok (.iconst 0, 1) := by decide +kernel
theorem dL_law_584 : decode cL_law 584 = .ok (.ireturn, 1) := by decide +kernel
theorem dL_law_585 : decode cL_law 585 = .ok (.aload_n 1, 1) := by decide +kernel
theorem dL_law_586 : decode cL_law 586 = .ok (.aload_n 0, 1) := by decide +kernel
theorem dL_law_587 : decode cL_law 587 = .ok (.iload_n 3, 1) := by decide +kernel
theorem dL_law_588 : decode cL_law 588 = .ok (.iconst 1, 1) := by decide +kernel
theorem dL_law_589 : decode cL_law 589 = .ok (.iadd, 1) := by decide +kernel
theorem dL_law_590 : decode cL_law 590 = .ok (.iaload, 1) := by decide +kernel
theorem dL_law_591 : decode cL_law 591 = .ok (.invokevirtual 78, 3) := by decide +kernel
theorem dL_law_594 : decode cL_law 594 = .ok (.aload_n 2, 1) := by decide +kernel
theorem dL_law_595 : decode cL_law 595 = .ok (.aload_n 0, 1) := by decide +kernel
theorem dL_law_596 : decode cL_law 596 = .ok (.iload_n 3, 1) := by decide +kernel
theorem dL_law_597 : decode cL_law 597 = .ok (.iconst 1, 1) := by decide +kernel
theorem dL_law_598 : decode cL_law 598 = .ok (.iadd, 1) := by decide +kernel
theorem dL_law_599 : decode cL_law 599 = .ok (.iaload, 1) := by decide +kernel
theorem dL_law_600 : decode cL_law 600 = .ok (.invokevirtual 81, 3) := by decide +kernel
theorem dL_law_603 : decode cL_law 603 = .ok (.if_icmp .eq 126, 3) := by decide +kernel
theorem dL_law_606 : decode cL_law 606 = .ok (.iconst 0, 1) := by decide +kernel
theorem dL_law_607 : decode cL_law 607 = .ok (.ireturn, 1) := by decide +kernel
theorem dL_law_608 : decode cL_law 608 = .ok (.aload_n 1, 1) := by decide +kernel
theorem dL_law_609 : decode cL_law 609 = .ok (.invokevirtual 82, 3) := by decide +kernel
theorem dL_law_612 : decode cL_law 612 = .ok (.aload_n 2, 1) := by decide +kernel
theorem dL_law_613 : decode cL_law 613 = .ok (.invokevirtual 85, 3) := by decide +kernel
theorem dL_law_616 : decode cL_law 616 = .ok (.if_icmp .eq 113, 3) := by decide +kernel
theorem dL_law_619 : decode cL_law 619 = .ok (.iconst 0, 1) := by decide +kernel
theorem dL_law_620 : decode cL_law 620 = .ok (.ireturn, 1) := by decide +kernel
theorem dL_law_621 : decode cL_law 621 = .ok (.aload_n 1, 1) := by decide +kernel
theorem dL_law_622 : decode cL_law 622 = .ok (.aload_n 0, 1) := by decide +kernel
theorem dL_law_623 : decode cL_law 623 = .ok (.iload_n 3, 1) := by decide +kernel
theorem dL_law_624 : decode cL_law 624 = .ok (.iconst 1, 1) := by decide +kernel
theorem dL_law_625 : decode cL_law 625 = .ok (.iadd, 1) := by decide +kernel
theorem dL_law_626 : decode cL_law 626 = .ok (.iaload, 1) := by decide +kernel
theorem dL_law_627 : decode cL_law 627 = .ok (.invokevirtual 86, 3) := by decide +kernel
theorem dL_law_630 : decode cL_law 630 = .ok (.aload_n 2, 1) := by decide +kernel
theorem dL_law_631 : decode cL_law 631 = .ok (.aload_n 0, 1) := by decide +kernel
theorem dL_law_632 : decode cL_law 632 = .ok (.iload_n 3, 1) := by decide +kernel
theorem dL_law_633 : decode cL_law 633 = .ok (.iconst 1, 1) := by decide +kernel
theorem dL_law_634 : decode cL_law 634 = .ok (.iadd, 1) := by decide +kernel
theorem dL_law_635 : decode cL_law 635 = .ok (.iaload, 1) := by decide +kernel
theorem dL_law_636 : decode cL_law 636 = .ok (.invokevirtual 89, 3) := by decide +kernel
theorem dL_law_639 : decode cL_law 639 = .ok (.if_icmp .eq 90, 3) := by decide +kernel
theorem dL_law_642 : decode cL_law 642 = .ok (.iconst 0, 1) := by decide +kernel
theorem dL_law_643 : decode cL_law 643 = .ok (.ireturn, 1) := by decide +kernel
theorem dL_law_644 : decode cL_law 644 = .ok (.aload_n 1, 1) := by decide +kernel
theorem dL_law_645 : decode cL_law 645 = .ok (.invokevirtual 90, 3) := by decide +kernel
theorem dL_law_648 : decode cL_law 648 = .ok (.aload_n 2, 1) := by decide +kernel
theorem dL_law_649 : decode cL_law 649 = .ok (.invokevirtual 93, 3) := by decide +kernel
theorem dL_law_652 : decode cL_law 652 = .ok (.if_icmp .eq 77, 3) := by decide +kernel
theorem dL_law_655 : decode cL_law 655 = .ok (.iconst 0, 1) := by decide +kernel
theorem dL_law_656 : decode cL_law 656 = .ok (.ireturn, 1) := by decide +kernel
theorem dL_law_657 : decode cL_law 657 = .ok (.aload_n 1, 1) := by decide +kernel
theorem dL_law_658 : decode cL_law 658 = .ok (.aload_n 0, 1) := by decide +kernel
theorem dL_law_659 : decode cL_law 659 = .ok (.iload_n 3, 1) := by decide +kernel
theorem dL_law_660 : decode cL_law 660 = .ok (.iconst 1, 1) := by decide +kernel
theorem dL_law_661 : decode cL_law 661 = .ok (.iadd, 1) := by decide +kernel
theorem dL_law_662 : decode cL_law 662 = .ok (.iaload, 1) := by decide +kernel
theorem dL_law_663 : decode cL_law 663 = .ok (.invokevirtual 94, 3) := by decide +kernel
theorem dL_law_666 : decode cL_law 666 = .ok (.aload_n 2, 1) := by decide +kernel
theorem dL_law_667 : decode cL_law 667 = .ok (.aload_n 0, 1) := by decide +kernel
theorem dL_law_668 : decode cL_law 668 = .ok (.iload_n 3, 1) := by decide +kernel
theorem dL_law_669 : decode cL_law 669 = .ok (.iconst 1, 1) := by decide +kernel
theorem dL_law_670 : decode cL_law 670 = .ok (.iadd, 1) := by decide +kernel
theorem dL_law_671 : decode cL_law 671 = .ok (.iaload, 1) := by decide +kernel
theorem dL_law_672 : decode cL_law 672 = .ok (.invokevirtual 97, 3) := by decide +kernel
theorem dL_law_675 : decode cL_law 675 = .ok (.if_icmp .eq 54, 3) := by decide +kernel
theorem dL_law_678 : decode cL_law 678 = .ok (.iconst 0, 1) := by decide +kernel
theorem dL_law_679 : decode cL_law 679 = .ok (.ireturn, 1) := by decide +kernel
theorem dL_law_680 : decode cL_law 680 = .ok (.aload_n 1, 1) := by decide +kernel
theorem dL_law_681 : decode cL_law 681 = .ok (.invokevirtual 98, 3) := by decide +kernel
theorem dL_law_684 : decode cL_law 684 = .ok (.aload_n 2, 1) := by decide +kernel
theorem dL_law_685 : decode cL_law 685 = .ok (.invokevirtual 101, 3) := by decide +kernel
theorem dL_law_688 : decode cL_law 688 = .ok (.if_icmp .eq 41, 3) := by decide +kernel
theorem dL_law_691 : decode cL_law 691 = .ok (.iconst 0, 1) := by decide +kernel
theorem dL_law_692 : decode cL_law 692 = .ok (.ireturn, 1) := by decide +kernel
theorem dL_law_693 : decode cL_law 693 = .ok (.aload_n 1, 1) := by decide +kernel
theorem dL_law_694 : decode cL_law 694 = .ok (.aload_n 0, 1) := by decide +kernel
theorem dL_law_695 : decode cL_law 695 = .ok (.iload_n 3, 1) := by decide +kernel
theorem dL_law_696 : decode cL_law 696 = .ok (.iconst 1, 1) := by decide +kernel
theorem dL_law_697 : decode cL_law 697 = .ok (.iadd, 1) := by decide +kernel
theorem dL_law_698 : decode cL_law 698 = .ok (.iaload, 1) := by decide +kernel
theorem dL_law_699 : decode cL_law 699 = .ok (.invokevirtual 102, 3) := by decide +kernel
theorem dL_law_702 : decode cL_law 702 = .ok (.aload_n 2, 1) := by decide +kernel
theorem dL_law_703 : decode cL_law 703 = .ok (.aload_n 0, 1) := by decide +kernel
theorem dL_law_704 : decode cL_law 704 = .ok (.iload_n 3, 1) := by decide +kernel
theorem dL_law_705 : decode cL_law 705 = .ok (.iconst 1, 1) := by decide +kernel
theorem dL_law_706 : decode cL_law 706 = .ok (.iadd, 1) := by decide +kernel
theorem dL_law_707 : decode cL_law 707 = .ok (.iaload, 1) := by decide +kernel
theorem dL_law_708 : decode cL_law 708 = .ok (.invokevirtual 105, 3) := by decide +kernel
theorem dL_law_711 : decode cL_law 711 = .ok (.if_icmp .eq 18, 3) := by decide +kernel
theorem dL_law_714 : decode cL_law 714 = .ok (.iconst 0, 1) := by decide +kernel
theorem dL_law_715 : decode cL_law 715 = .ok (.ireturn, 1) := by decide +kernel
theorem dL_law_716 : decode cL_law 716 = .ok (.aload_n 1, 1) := by decide +kernel
theorem dL_law_717 : decode cL_law 717 = .ok (.invokevirtual 106, 3) := by decide +kernel
theorem dL_law_720 : decode cL_law 720 = .ok (.aload_n 2, 1) := by decide +kernel
theorem dL_law_721 : decode cL_law 721 = .ok (.invokevirtual 109, 3) := by decide +kernel
theorem dL_law_724 : decode cL_law 724 = .ok (.if_icmp .eq 5, 3) := by decide +kernel
theorem dL_law_727 : decode cL_law 727 = .ok (.iconst 0, 1) := by decide +kernel
theorem dL_law_728 : decode cL_law 728 = .ok (.ireturn, 1) := by decide +kernel
theorem dL_law_729 : decode cL_law 729 = .ok (.iinc 3 5, 3) := by decide +kernel
theorem dL_law_732 : decode cL_law 732 = .ok (.goto (-714), 3) := by decide +kernel
theorem dL_law_735 : decode cL_law 735 = .ok (.iconst 1, 1) := by decide +kernel
theorem dL_law_736 : decode cL_law 736 = .ok (.ireturn, 1) := by decide +kernel
end
section
/-! the tables' good words, by their places; the nest words apart -/
def TB : List Cond := lw_tbl.filter goodWord
def NWq : Cond → Bool
  | .fieldLinkNest .. => true
  | .methodLinkNest .. => true
  | _ => false
def NL : List Cond := lw_tbl.filter NWq
theorem tb_of {w : Cond} (i : Nat) (h : lw_tbl[i]? = some w) (hg : goodWord w = true) : w ∈ TB := List.mem_filter.mpr ⟨List.mem_of_getElem? h, hg⟩
theorem nl_of {w : Cond} (i : Nat) (h : lw_tbl[i]? = some w) (hg : NWq w = true) : w ∈ NL := List.mem_filter.mpr ⟨List.mem_of_getElem? h, hg⟩
theorem tb_good : ∀ w ∈ TB, w ∈ TB ∧ ((w.onTables && w.keeps) = true ∨ ∃ ty, w = .arrayClass ty) := fun w h => ⟨h, good_of_word (List.mem_filter.mp h).2⟩
theorem tb_in {w : Cond} (h : w ∈ TB) : w ∈ lw_tbl := (List.mem_filter.mp h).1
def MI (y : MethodName) (b : ByteArray) (mL : Nat) (ret : Option FieldType) (n : Nat) : Prop := Cond.instanceMethod y ∈ TB ∧ Cond.selects y.cls y y ∈ TB ∧ Cond.initialized y.cls ∈ TB ∧ Cond.code y b mL ret ∈ TB ∧ (y.cls ≠ "java/lang/invoke/MethodHandle" ∧ y.cls ≠ "java/lang/invoke/VarHandle" ∧ (parseMethodDescriptor y.desc).map (fun d => d.parameters.length) = some n) ∧ plainName y.cls = true
def MS (y : MethodName) (b : ByteArray) (mL : Nat) (ret : Option FieldType) (n : Nat) : Prop := Cond.static y ∈ TB ∧ Cond.initialized y.cls ∈ TB ∧ Cond.code y b mL ret ∈ TB ∧ (y.cls ≠ "java/lang/invoke/MethodHandle" ∧ y.cls ≠ "java/lang/invoke/VarHandle" ∧ (parseMethodDescriptor y.desc).map (fun d => d.parameters.length) = some n) ∧ plainName y.cls = true
theorem ini_L : Cond.initialized "RumorTombsLaw" ∈ TB := tb_of 52 (by decide +kernel) rfl
theorem ini_X3 : Cond.initialized RX3 ∈ TB := tb_of 53 (by decide +kernel) rfl
theorem ini_X2 : Cond.initialized RX2 ∈ TB := tb_of 54 (by decide +kernel) rfl
theorem ini_X0 : Cond.initialized RX0 ∈ TB := tb_of 55 (by decide +kernel) rfl
theorem ini_X1 : Cond.initialized RX1 ∈ TB := tb_of 56 (by decide +kernel) rfl
theorem ini_X4 : Cond.initialized RX4 ∈ TB := tb_of 57 (by decide +kernel) rfl
theorem ini_J10 : Cond.initialized RJ10 ∈ TB := tb_of 58 (by decide +kernel) rfl
theorem ini_J9 : Cond.initialized RJ9 ∈ TB := tb_of 59 (by decide +kernel) rfl
theorem ini_J6 : Cond.initialized RJ6 ∈ TB := tb_of 60 (by decide +kernel) rfl
theorem ml_L_9 : Cond.methodLink "RumorTombsLaw" 9 yX3_init ∈ TB := tb_of 63 (by decide +kernel) rfl
theorem ml_X3_1 : Cond.methodLink RX3 1 objectInit ∈ TB := tb_of 66 (by decide +kernel) rfl
theorem mn_X3_9 : Cond.methodLinkNest RX3 9 yX2_init "RumorTombs" ∈ NL := nl_of 71 (by decide +kernel) rfl
theorem ml_X2_3 : Cond.methodLink RX2 3 objectInit ∈ TB := tb_of 74 (by decide +kernel) rfl
theorem fl_X2_9 : Cond.fieldLink RX2 9 "RumorTombs$Village" "villagers" "I" ∈ TB := tb_of 75 (by decide +kernel) rfl
theorem fn_X3_168 : Cond.fieldLinkNest RX3 168 "RumorTombs$Village" "villagers" "I" "RumorTombs" ∈ NL := nl_of 76 (by decide +kernel) rfl
theorem fl_X2_15 : Cond.fieldLink RX2 15 "RumorTombs$Village" "time" "I" ∈ TB := tb_of 77 (by decide +kernel) rfl
theorem fn_X3_175 : Cond.fieldLinkNest RX3 175 "RumorTombs$Village" "time" "I" "RumorTombs" ∈ NL := nl_of 78 (by decide +kernel) rfl
theorem fl_X2_18 : Cond.fieldLink RX2 18 "RumorTombs$Village" "watch" "I" ∈ TB := tb_of 79 (by decide +kernel) rfl
theorem fn_X3_178 : Cond.fieldLinkNest RX3 178 "RumorTombs$Village" "watch" "I" "RumorTombs" ∈ NL := nl_of 80 (by decide +kernel) rfl
theorem fl_X2_21 : Cond.fieldLink RX2 21 "RumorTombs$Village" "tombsMade" "I" ∈ TB := tb_of 81 (by decide +kernel) rfl
theorem fn_X3_190 : Cond.fieldLinkNest RX3 190 "RumorTombs$Village" "tombsMade" "I" "RumorTombs" ∈ NL := nl_of 82 (by decide +kernel) rfl
theorem fl_X2_24 : Cond.fieldLink RX2 24 "RumorTombs$Village" "states" "[I" ∈ TB := tb_of 83 (by decide +kernel) rfl
theorem fn_X3_62 : Cond.fieldLinkNest RX3 62 "RumorTombs$Village" "states" "[I" "RumorTombs" ∈ NL := nl_of 84 (by decide +kernel) rfl
theorem fl_X2_28 : Cond.fieldLink RX2 28 "RumorTombs$Village" "clocks" "[I" ∈ TB := tb_of 85 (by decide +kernel) rfl
theorem fn_X3_66 : Cond.fieldLinkNest RX3 66 "RumorTombs$Village" "clocks" "[I" "RumorTombs" ∈ NL := nl_of 86 (by decide +kernel) rfl
theorem fl_X2_31 : Cond.fieldLink RX2 31 "RumorTombs$Village" "asleepSince" "[I" ∈ TB := tb_of 87 (by decide +kernel) rfl
theorem fl_X2_34 : Cond.fieldLink RX2 34 "RumorTombs$Village" "ghostsOf" "[I" ∈ TB := tb_of 88 (by decide +kernel) rfl
theorem fn_X3_75 : Cond.fieldLinkNest RX3 75 "RumorTombs$Village" "ghostsOf" "[I" "RumorTombs" ∈ NL := nl_of 89 (by decide +kernel) rfl
theorem fl_X2_37 : Cond.fieldLink RX2 37 "RumorTombs$Village" "stamps" "[I" ∈ TB := tb_of 90 (by decide +kernel) rfl
theorem fn_X3_102 : Cond.fieldLinkNest RX3 102 "RumorTombs$Village" "stamps" "[I" "RumorTombs" ∈ NL := nl_of 91 (by decide +kernel) rfl
theorem fl_X2_40 : Cond.fieldLink RX2 40 "RumorTombs$Village" "kinds" "[I" ∈ TB := tb_of 92 (by decide +kernel) rfl
theorem fn_X3_114 : Cond.fieldLinkNest RX3 114 "RumorTombs$Village" "kinds" "[I" "RumorTombs" ∈ NL := nl_of 93 (by decide +kernel) rfl
theorem fl_X2_43 : Cond.fieldLink RX2 43 "RumorTombs$Village" "values" "[I" ∈ TB := tb_of 94 (by decide +kernel) rfl
theorem fn_X3_111 : Cond.fieldLinkNest RX3 111 "RumorTombs$Village" "values" "[I" "RumorTombs" ∈ NL := nl_of 95 (by decide +kernel) rfl
theorem fl_X2_46 : Cond.fieldLink RX2 46 "RumorTombs$Village" "made" "[I" ∈ TB := tb_of 96 (by decide +kernel) rfl
theorem fn_X3_117 : Cond.fieldLinkNest RX3 117 "RumorTombs$Village" "made" "[I" "RumorTombs" ∈ NL := nl_of 97 (by decide +kernel) rfl
theorem fl_X2_49 : Cond.fieldLink RX2 49 "RumorTombs$Village" "seen" "[I" ∈ TB := tb_of 98 (by decide +kernel) rfl
theorem fn_X3_120 : Cond.fieldLinkNest RX3 120 "RumorTombs$Village" "seen" "[I" "RumorTombs" ∈ NL := nl_of 99 (by decide +kernel) rfl
theorem fl_X2_52 : Cond.fieldLink RX2 52 "RumorTombs$Village" "newestDropped" "[I" ∈ TB := tb_of 100 (by decide +kernel) rfl
theorem fl_X2_55 : Cond.fieldLink RX2 55 "RumorTombs$Village" "newestTomb" "[I" ∈ TB := tb_of 101 (by decide +kernel) rfl
theorem ml_X3_21 : Cond.methodLink RX3 21 yX0_init ∈ TB := tb_of 136 (by decide +kernel) rfl
theorem ml_X0_3 : Cond.methodLink RX0 3 objectInit ∈ TB := tb_of 139 (by decide +kernel) rfl
theorem mn_X0_21 : Cond.methodLinkNest RX0 21 yX2_init "RumorTombs" ∈ NL := nl_of 142 (by decide +kernel) rfl
theorem fl_X0_11 : Cond.fieldLink RX0 11 "RumorTombs$History" "states" "[LRumorTombs$Village;" ∈ TB := tb_of 143 (by decide +kernel) rfl
theorem fl_X0_17 : Cond.fieldLink RX0 17 "RumorTombs$History" "kept" "I" ∈ TB := tb_of 144 (by decide +kernel) rfl
theorem fn_X3_193 : Cond.fieldLinkNest RX3 193 "RumorTombs$History" "kept" "I" "RumorTombs" ∈ NL := nl_of 145 (by decide +kernel) rfl
theorem mn_X3_28 : Cond.methodLinkNest RX3 28 yX1_init "RumorTombs" ∈ NL := nl_of 153 (by decide +kernel) rfl
theorem ml_X1_3 : Cond.methodLink RX1 3 objectInit ∈ TB := tb_of 156 (by decide +kernel) rfl
theorem fl_X1_9 : Cond.fieldLink RX1 9 "RumorTombs$Orders" "signs" "[C" ∈ TB := tb_of 157 (by decide +kernel) rfl
theorem fl_X1_15 : Cond.fieldLink RX1 15 "RumorTombs$Orders" "length" "I" ∈ TB := tb_of 158 (by decide +kernel) rfl
theorem fn_X3_196 : Cond.fieldLinkNest RX3 196 "RumorTombs$Orders" "length" "I" "RumorTombs" ∈ NL := nl_of 159 (by decide +kernel) rfl
theorem fl_X1_19 : Cond.fieldLink RX1 19 "RumorTombs$Orders" "numbers" "[I" ∈ TB := tb_of 160 (by decide +kernel) rfl
theorem fl_X1_23 : Cond.fieldLink RX1 23 "RumorTombs$Orders" "done" "I" ∈ TB := tb_of 161 (by decide +kernel) rfl
theorem fn_X3_216 : Cond.fieldLinkNest RX3 216 "RumorTombs$Orders" "done" "I" "RumorTombs" ∈ NL := nl_of 162 (by decide +kernel) rfl
theorem fl_X1_26 : Cond.fieldLink RX1 26 "RumorTombs$Orders" "faultPosition" "I" ∈ TB := tb_of 163 (by decide +kernel) rfl
theorem fn_X3_213 : Cond.fieldLinkNest RX3 213 "RumorTombs$Orders" "faultPosition" "I" "RumorTombs" ∈ NL := nl_of 164 (by decide +kernel) rfl
theorem fl_X1_29 : Cond.fieldLink RX1 29 "RumorTombs$Orders" "faultReason" "I" ∈ TB := tb_of 165 (by decide +kernel) rfl
theorem fn_X3_210 : Cond.fieldLinkNest RX3 210 "RumorTombs$Orders" "faultReason" "I" "RumorTombs" ∈ NL := nl_of 166 (by decide +kernel) rfl
theorem fl_X3_10 : Cond.fieldLink RX3 10 "RumorTombs" "now" "LRumorTombs$Village;" ∈ TB := tb_of 181 (by decide +kernel) rfl
theorem fl_X3_16 : Cond.fieldLink RX3 16 "RumorTombs" "trial" "LRumorTombs$Village;" ∈ TB := tb_of 182 (by decide +kernel) rfl
theorem fl_X3_22 : Cond.fieldLink RX3 22 "RumorTombs" "history" "LRumorTombs$History;" ∈ TB := tb_of 183 (by decide +kernel) rfl
theorem fl_X3_29 : Cond.fieldLink RX3 29 "RumorTombs" "orders" "LRumorTombs$Orders;" ∈ TB := tb_of 184 (by decide +kernel) rfl
theorem ml_L_13 : Cond.methodLink "RumorTombsLaw" 13 yX3_villager ∈ TB := tb_of 194 (by decide +kernel) rfl
theorem ml_X3_33 : Cond.methodLink RX3 33 yX0_prepare ∈ TB := tb_of 198 (by decide +kernel) rfl
theorem ml_X0_22 : Cond.methodLink RX0 22 yX2_copyFrom ∈ TB := tb_of 202 (by decide +kernel) rfl
theorem ml_X2_58 : Cond.methodLink RX2 58 yX2_copyRow ∈ TB := tb_of 206 (by decide +kernel) rfl
theorem ml_X2_62 : Cond.methodLink RX2 62 arraycopyName ∈ TB := tb_of 209 (by decide +kernel) rfl
theorem ml_X3_37 : Cond.methodLink RX3 37 yX2_addVillager ∈ TB := tb_of 212 (by decide +kernel) rfl
theorem cn_X2_72 : Cond.constant RX2 72 (-1000003) ∈ TB := tb_of 216 (by decide +kernel) rfl
theorem ml_X3_41 : Cond.methodLink RX3 41 yX3_recorded ∈ TB := tb_of 217 (by decide +kernel) rfl
theorem ml_X3_219 : Cond.methodLink RX3 219 yX0_keep ∈ TB := tb_of 221 (by decide +kernel) rfl
theorem ml_X0_26 : Cond.methodLink RX0 26 yX0_dropOldest ∈ TB := tb_of 225 (by decide +kernel) rfl
theorem ml_L_18 : Cond.methodLink "RumorTombsLaw" 18 yX3_sleep ∈ TB := tb_of 229 (by decide +kernel) rfl
theorem ml_X3_45 : Cond.methodLink RX3 45 yX2_fallAsleep ∈ TB := tb_of 233 (by decide +kernel) rfl
theorem ml_X2_68 : Cond.methodLink RX2 68 yX2_has ∈ TB := tb_of 237 (by decide +kernel) rfl
theorem cn_X2_73 : Cond.constant RX2 73 (-1000001) ∈ TB := tb_of 241 (by decide +kernel) rfl
theorem ml_X2_74 : Cond.methodLink RX2 74 yX2_isAwake ∈ TB := tb_of 242 (by decide +kernel) rfl
theorem cn_X2_77 : Cond.constant RX2 77 (-1000002) ∈ TB := tb_of 246 (by decide +kernel) rfl
theorem ml_X2_78 : Cond.methodLink RX2 78 yX2_howMany ∈ TB := tb_of 247 (by decide +kernel) rfl
theorem ml_L_23 : Cond.methodLink "RumorTombsLaw" 23 yX3_wake ∈ TB := tb_of 251 (by decide +kernel) rfl
theorem ml_X3_48 : Cond.methodLink RX3 48 yX2_wakeUp ∈ TB := tb_of 255 (by decide +kernel) rfl
theorem ml_X2_82 : Cond.methodLink RX2 82 yX2_isAsleep ∈ TB := tb_of 259 (by decide +kernel) rfl
theorem ml_X2_85 : Cond.methodLink RX2 85 yX2_ticksAsleep ∈ TB := tb_of 263 (by decide +kernel) rfl
theorem ml_L_27 : Cond.methodLink "RumorTombsLaw" 27 yX3_leave ∈ TB := tb_of 267 (by decide +kernel) rfl
theorem ml_X3_51 : Cond.methodLink RX3 51 yX2_goAway ∈ TB := tb_of 271 (by decide +kernel) rfl
theorem mn_X2_88 : Cond.methodLinkNest RX2 88 yX3_place "RumorTombs" ∈ NL := nl_of 275 (by decide +kernel) rfl
theorem ml_L_31 : Cond.methodLink "RumorTombsLaw" 31 yX3_watch ∈ TB := tb_of 278 (by decide +kernel) rfl
theorem ml_X3_54 : Cond.methodLink RX3 54 yX2_changeWatch ∈ TB := tb_of 282 (by decide +kernel) rfl
theorem ml_L_35 : Cond.methodLink "RumorTombsLaw" 35 yX3_villagerOf ∈ TB := tb_of 286 (by decide +kernel) rfl
theorem ml_X3_57 : Cond.methodLink RX3 57 yX2_has ∈ TB := tb_of 290 (by decide +kernel) rfl
theorem cn_X3_61 : Cond.constant RX3 61 (-1000001) ∈ TB := tb_of 291 (by decide +kernel) rfl
theorem ml_X3_69 : Cond.methodLink RX3 69 yX2_rumorTopics ∈ TB := tb_of 292 (by decide +kernel) rfl
theorem ml_X2_92 : Cond.methodLink RX2 92 yX2_isRumor ∈ TB := tb_of 296 (by decide +kernel) rfl
theorem ml_X3_72 : Cond.methodLink RX3 72 yX2_tombTopics ∈ TB := tb_of 300 (by decide +kernel) rfl
theorem ml_X2_95 : Cond.methodLink RX2 95 yX2_isTomb ∈ TB := tb_of 304 (by decide +kernel) rfl
theorem ml_X3_78 : Cond.methodLink RX3 78 yX2_isAsleep ∈ TB := tb_of 308 (by decide +kernel) rfl
theorem ml_X3_81 : Cond.methodLink RX3 81 yX2_ticksAsleep ∈ TB := tb_of 309 (by decide +kernel) rfl
theorem cn_X3_84 : Cond.constant RX3 84 (-1000004) ∈ TB := tb_of 310 (by decide +kernel) rfl
theorem ml_L_40 : Cond.methodLink "RumorTombsLaw" 40 yX3_tell ∈ TB := tb_of 311 (by decide +kernel) rfl
theorem ml_X3_85 : Cond.methodLink RX3 85 yX2_makeRumor ∈ TB := tb_of 315 (by decide +kernel) rfl
theorem mn_X2_116 : Cond.methodLinkNest RX2 116 yX3_isTopic "RumorTombs" ∈ NL := nl_of 319 (by decide +kernel) rfl
theorem ml_X2_119 : Cond.methodLink RX2 119 yX2_write ∈ TB := tb_of 322 (by decide +kernel) rfl
theorem ml_L_45 : Cond.methodLink "RumorTombsLaw" 45 yX3_bury ∈ TB := tb_of 326 (by decide +kernel) rfl
theorem ml_X3_89 : Cond.methodLink RX3 89 yX2_makeTomb ∈ TB := tb_of 330 (by decide +kernel) rfl
theorem ml_X2_123 : Cond.methodLink RX2 123 Lib.Math.max.name ∈ TB := tb_of 334 (by decide +kernel) rfl
theorem ml_L_49 : Cond.methodLink "RumorTombsLaw" 49 yX3_meet ∈ TB := tb_of 337 (by decide +kernel) rfl
theorem ml_X3_93 : Cond.methodLink RX3 93 yX2_bringTogether ∈ TB := tb_of 341 (by decide +kernel) rfl
theorem ml_X2_128 : Cond.methodLink RX2 128 yX2_areTwo ∈ TB := tb_of 345 (by decide +kernel) rfl
theorem ml_X2_131 : Cond.methodLink RX2 131 yX2_talk ∈ TB := tb_of 349 (by decide +kernel) rfl
theorem ml_X2_134 : Cond.methodLink RX2 134 yX2_giver ∈ TB := tb_of 353 (by decide +kernel) rfl
theorem ml_X2_144 : Cond.methodLink RX2 144 yX2_mayHand ∈ TB := tb_of 357 (by decide +kernel) rfl
theorem ml_X2_148 : Cond.methodLink RX2 148 yX2_author ∈ TB := tb_of 361 (by decide +kernel) rfl
theorem ml_X2_138 : Cond.methodLink RX2 138 yX2_hand ∈ TB := tb_of 365 (by decide +kernel) rfl
theorem ml_X2_141 : Cond.methodLink RX2 141 yX2_shareSight ∈ TB := tb_of 369 (by decide +kernel) rfl
theorem ml_L_53 : Cond.methodLink "RumorTombsLaw" 53 yX3_entryOf ∈ TB := tb_of 373 (by decide +kernel) rfl
theorem ml_X3_96 : Cond.methodLink RX3 96 yX3_isTopic ∈ TB := tb_of 377 (by decide +kernel) rfl
theorem ml_X3_99 : Cond.methodLink RX3 99 yX3_place ∈ TB := tb_of 378 (by decide +kernel) rfl
theorem ml_X3_105 : Cond.methodLink RX3 105 yX2_isTomb ∈ TB := tb_of 379 (by decide +kernel) rfl
theorem ml_X3_108 : Cond.methodLink RX3 108 yX2_author ∈ TB := tb_of 380 (by decide +kernel) rfl
theorem ml_X3_123 : Cond.methodLink RX3 123 yX2_isDead ∈ TB := tb_of 381 (by decide +kernel) rfl
theorem ml_L_58 : Cond.methodLink "RumorTombsLaw" 58 yX3_tick ∈ TB := tb_of 385 (by decide +kernel) rfl
theorem ml_X3_127 : Cond.methodLink RX3 127 yX2_letGoBy ∈ TB := tb_of 389 (by decide +kernel) rfl
theorem cn_X2_154 : Cond.constant RX2 154 (100000) ∈ TB := tb_of 393 (by decide +kernel) rfl
theorem ml_X2_155 : Cond.methodLink RX2 155 yX2_pass ∈ TB := tb_of 394 (by decide +kernel) rfl
theorem ml_X2_158 : Cond.methodLink RX2 158 yX2_present ∈ TB := tb_of 398 (by decide +kernel) rfl
theorem ml_X2_162 : Cond.methodLink RX2 162 yX2_isOver ∈ TB := tb_of 402 (by decide +kernel) rfl
theorem ml_L_62 : Cond.methodLink "RumorTombsLaw" 62 yX3_newest ∈ TB := tb_of 406 (by decide +kernel) rfl
theorem ml_X3_130 : Cond.methodLink RX3 130 yX2_holdersOfNewest ∈ TB := tb_of 410 (by decide +kernel) rfl
theorem ml_L_66 : Cond.methodLink "RumorTombsLaw" 66 yX3_unlike ∈ TB := tb_of 414 (by decide +kernel) rfl
theorem ml_X3_133 : Cond.methodLink RX3 133 yX2_unlikeTopics ∈ TB := tb_of 418 (by decide +kernel) rfl
theorem ml_L_70 : Cond.methodLink "RumorTombsLaw" 70 yX3_dead ∈ TB := tb_of 422 (by decide +kernel) rfl
theorem ml_X3_136 : Cond.methodLink RX3 136 yX2_deadTopics ∈ TB := tb_of 426 (by decide +kernel) rfl
theorem ml_X2_98 : Cond.methodLink RX2 98 yX2_isDead ∈ TB := tb_of 430 (by decide +kernel) rfl
theorem ml_L_74 : Cond.methodLink "RumorTombsLaw" 74 yX3_ghosts ∈ TB := tb_of 431 (by decide +kernel) rfl
theorem ml_X3_139 : Cond.methodLink RX3 139 yX2_areTwo ∈ TB := tb_of 435 (by decide +kernel) rfl
theorem cn_X3_142 : Cond.constant RX3 142 (-1000002) ∈ TB := tb_of 436 (by decide +kernel) rfl
theorem ml_X3_143 : Cond.methodLink RX3 143 yX2_copyFrom ∈ TB := tb_of 437 (by decide +kernel) rfl
theorem ml_X3_146 : Cond.methodLink RX3 146 yX2_pass ∈ TB := tb_of 438 (by decide +kernel) rfl
theorem ml_X3_149 : Cond.methodLink RX3 149 yX2_talk ∈ TB := tb_of 439 (by decide +kernel) rfl
theorem ml_X3_152 : Cond.methodLink RX3 152 yX2_allGhosts ∈ TB := tb_of 440 (by decide +kernel) rfl
theorem ml_L_78 : Cond.methodLink "RumorTombsLaw" 78 yX3_bestMeeting ∈ TB := tb_of 444 (by decide +kernel) rfl
theorem ml_X3_155 : Cond.methodLink RX3 155 yX2_isAwake ∈ TB := tb_of 448 (by decide +kernel) rfl
theorem ml_X3_158 : Cond.methodLink RX3 158 yX2_wouldPass ∈ TB := tb_of 449 (by decide +kernel) rfl
theorem ml_L_82 : Cond.methodLink "RumorTombsLaw" 82 yX3_rounds ∈ TB := tb_of 453 (by decide +kernel) rfl
theorem ml_X3_161 : Cond.methodLink RX3 161 yX2_awakeAreAlike ∈ TB := tb_of 457 (by decide +kernel) rfl
theorem ml_X2_151 : Cond.methodLink RX2 151 yX2_unlikeTopics ∈ TB := tb_of 461 (by decide +kernel) rfl
theorem ml_X3_165 : Cond.methodLink RX3 165 yX2_meetInTurn ∈ TB := tb_of 462 (by decide +kernel) rfl
theorem ml_L_86 : Cond.methodLink "RumorTombsLaw" 86 yX3_count ∈ TB := tb_of 466 (by decide +kernel) rfl
theorem ml_X3_172 : Cond.methodLink RX3 172 yX2_howMany ∈ TB := tb_of 470 (by decide +kernel) rfl
theorem ml_X3_181 : Cond.methodLink RX3 181 yX2_allRumors ∈ TB := tb_of 471 (by decide +kernel) rfl
theorem ml_X2_102 : Cond.methodLink RX2 102 yX2_rumorTopics ∈ TB := tb_of 475 (by decide +kernel) rfl
theorem ml_X2_105 : Cond.methodLink RX2 105 yJ6_bitCount_0f7a4 ∈ TB := tb_of 476 (by decide +kernel) rfl
theorem cn_J6_265 : Cond.constant RJ6 265 (1431655765) ∈ TB := tb_of 479 (by decide +kernel) rfl
theorem cn_J6_266 : Cond.constant RJ6 266 (858993459) ∈ TB := tb_of 480 (by decide +kernel) rfl
theorem cn_J6_267 : Cond.constant RJ6 267 (252645135) ∈ TB := tb_of 481 (by decide +kernel) rfl
theorem ml_X3_184 : Cond.methodLink RX3 184 yX2_allTombs ∈ TB := tb_of 482 (by decide +kernel) rfl
theorem ml_X2_110 : Cond.methodLink RX2 110 yX2_tombTopics ∈ TB := tb_of 486 (by decide +kernel) rfl
theorem ml_X3_187 : Cond.methodLink RX3 187 yX2_allDead ∈ TB := tb_of 487 (by decide +kernel) rfl
theorem ml_X2_113 : Cond.methodLink RX2 113 yX2_deadTopics ∈ TB := tb_of 491 (by decide +kernel) rfl
theorem ml_L_90 : Cond.methodLink "RumorTombsLaw" 90 yX3_undo ∈ TB := tb_of 492 (by decide +kernel) rfl
theorem ml_X3_199 : Cond.methodLink RX3 199 yX0_restore ∈ TB := tb_of 496 (by decide +kernel) rfl
theorem ml_L_94 : Cond.methodLink "RumorTombsLaw" 94 yX3_type ∈ TB := tb_of 500 (by decide +kernel) rfl
theorem ml_X3_202 : Cond.methodLink RX3 202 yX1_append ∈ TB := tb_of 504 (by decide +kernel) rfl
theorem cn_X3_206 : Cond.constant RX3 206 (-1000003) ∈ TB := tb_of 508 (by decide +kernel) rfl
theorem ml_L_98 : Cond.methodLink "RumorTombsLaw" 98 yX3_clearText ∈ TB := tb_of 509 (by decide +kernel) rfl
theorem ml_L_102 : Cond.methodLink "RumorTombsLaw" 102 yX3_fault ∈ TB := tb_of 513 (by decide +kernel) rfl
theorem ml_X3_207 : Cond.methodLink RX3 207 yX1_carryOut ∈ TB := tb_of 517 (by decide +kernel) rfl
theorem ml_X1_32 : Cond.methodLink RX1 32 yX1_tryOrder ∈ TB := tb_of 521 (by decide +kernel) rfl
theorem ml_X1_40 : Cond.methodLink RX1 40 yX1_readNumbers ∈ TB := tb_of 525 (by decide +kernel) rfl
theorem ml_X1_52 : Cond.methodLink RX1 52 yX1_numbersOf ∈ TB := tb_of 529 (by decide +kernel) rfl
theorem ml_X1_44 : Cond.methodLink RX1 44 yX1_namesExist ∈ TB := tb_of 532 (by decide +kernel) rfl
theorem ml_X1_56 : Cond.methodLink RX1 56 yX2_has ∈ TB := tb_of 536 (by decide +kernel) rfl
theorem mn_X1_62 : Cond.methodLinkNest RX1 62 yX3_isTopic "RumorTombs" ∈ NL := nl_of 537 (by decide +kernel) rfl
theorem ml_X1_48 : Cond.methodLink RX1 48 yX1_doOrder ∈ TB := tb_of 538 (by decide +kernel) rfl
theorem ml_X1_65 : Cond.methodLink RX1 65 yX2_makeRumor ∈ TB := tb_of 542 (by decide +kernel) rfl
theorem ml_X1_69 : Cond.methodLink RX1 69 yX2_makeTomb ∈ TB := tb_of 543 (by decide +kernel) rfl
theorem ml_X1_73 : Cond.methodLink RX1 73 yX2_bringTogether ∈ TB := tb_of 544 (by decide +kernel) rfl
theorem ml_X1_76 : Cond.methodLink RX1 76 yX2_fallAsleep ∈ TB := tb_of 545 (by decide +kernel) rfl
theorem ml_X1_80 : Cond.methodLink RX1 80 yX2_wakeUp ∈ TB := tb_of 546 (by decide +kernel) rfl
theorem ml_X1_83 : Cond.methodLink RX1 83 yX2_letGoBy ∈ TB := tb_of 547 (by decide +kernel) rfl
theorem ml_X1_36 : Cond.methodLink RX1 36 yX1_setFault ∈ TB := tb_of 548 (by decide +kernel) rfl
theorem ml_L_106 : Cond.methodLink "RumorTombsLaw" 106 yX3_play ∈ TB := tb_of 552 (by decide +kernel) rfl
theorem ml_L_12 : Cond.methodLink "RumorTombsLaw" 12 yX4_init ∈ TB := tb_of 558 (by decide +kernel) rfl
theorem ml_X4_1 : Cond.methodLink RX4 1 objectInit ∈ TB := tb_of 561 (by decide +kernel) rfl
theorem fl_X4_7 : Cond.fieldLink RX4 7 "RumorTombsModel" "s" "[I" ∈ TB := tb_of 562 (by decide +kernel) rfl
theorem fl_X4_13 : Cond.fieldLink RX4 13 "RumorTombsModel" "was" "[I" ∈ TB := tb_of 563 (by decide +kernel) rfl
theorem fl_X4_16 : Cond.fieldLink RX4 16 "RumorTombsModel" "begun" "[I" ∈ TB := tb_of 564 (by decide +kernel) rfl
theorem fl_X4_19 : Cond.fieldLink RX4 19 "RumorTombsModel" "aside" "[I" ∈ TB := tb_of 565 (by decide +kernel) rfl
theorem fl_X4_41 : Cond.fieldLink RX4 41 "RumorTombsModel" "states" "I" ∈ TB := tb_of 566 (by decide +kernel) rfl
theorem fl_X4_22 : Cond.fieldLink RX4 22 "RumorTombsModel" "text" "[C" ∈ TB := tb_of 567 (by decide +kernel) rfl
theorem fl_X4_154 : Cond.fieldLink RX4 154 "RumorTombsModel" "typed" "I" ∈ TB := tb_of 568 (by decide +kernel) rfl
theorem fl_X4_157 : Cond.fieldLink RX4 157 "RumorTombsModel" "at" "I" ∈ TB := tb_of 569 (by decide +kernel) rfl
theorem fl_X4_180 : Cond.fieldLink RX4 180 "RumorTombsModel" "reason" "I" ∈ TB := tb_of 570 (by decide +kernel) rfl
theorem fl_X4_26 : Cond.fieldLink RX4 26 "RumorTombsModel" "got" "[I" ∈ TB := tb_of 571 (by decide +kernel) rfl
theorem ml_L_17 : Cond.methodLink "RumorTombsLaw" 17 yX4_villager ∈ TB := tb_of 593 (by decide +kernel) rfl
theorem cn_X4_45 : Cond.constant RX4 45 (-1000003) ∈ TB := tb_of 597 (by decide +kernel) rfl
theorem ml_X4_46 : Cond.methodLink RX4 46 yX4_keeps ∈ TB := tb_of 598 (by decide +kernel) rfl
theorem ml_X4_49 : Cond.methodLink RX4 49 yX4_acted ∈ TB := tb_of 602 (by decide +kernel) rfl
theorem cn_X4_40 : Cond.constant RX4 40 (-1000001) ∈ TB := tb_of 606 (by decide +kernel) rfl
theorem ml_L_22 : Cond.methodLink "RumorTombsLaw" 22 yX4_sleep ∈ TB := tb_of 607 (by decide +kernel) rfl
theorem ml_X4_64 : Cond.methodLink RX4 64 yX4_sleeps ∈ TB := tb_of 611 (by decide +kernel) rfl
theorem ml_X4_53 : Cond.methodLink RX4 53 yX4_isVillager ∈ TB := tb_of 615 (by decide +kernel) rfl
theorem ml_X4_33 : Cond.methodLink RX4 33 yX4_in ∈ TB := tb_of 619 (by decide +kernel) rfl
theorem ml_X4_57 : Cond.methodLink RX4 57 yX4_isAwake ∈ TB := tb_of 622 (by decide +kernel) rfl
theorem ml_X4_37 : Cond.methodLink RX4 37 yX4_vi ∈ TB := tb_of 626 (by decide +kernel) rfl
theorem cn_X4_60 : Cond.constant RX4 60 (-1000002) ∈ TB := tb_of 630 (by decide +kernel) rfl
theorem ml_X4_61 : Cond.methodLink RX4 61 yX4_many ∈ TB := tb_of 631 (by decide +kernel) rfl
theorem ml_L_26 : Cond.methodLink "RumorTombsLaw" 26 yX4_wake ∈ TB := tb_of 635 (by decide +kernel) rfl
theorem ml_X4_67 : Cond.methodLink RX4 67 yX4_wakes ∈ TB := tb_of 639 (by decide +kernel) rfl
theorem ml_L_30 : Cond.methodLink "RumorTombsLaw" 30 yX4_leave ∈ TB := tb_of 643 (by decide +kernel) rfl
theorem ml_X4_70 : Cond.methodLink RX4 70 yX4_isGone ∈ TB := tb_of 647 (by decide +kernel) rfl
theorem ml_X4_29 : Cond.methodLink RX4 29 yX4_place ∈ TB := tb_of 651 (by decide +kernel) rfl
theorem ml_L_34 : Cond.methodLink "RumorTombsLaw" 34 yX4_watch ∈ TB := tb_of 654 (by decide +kernel) rfl
theorem ml_L_39 : Cond.methodLink "RumorTombsLaw" 39 yX4_villagerOf ∈ TB := tb_of 658 (by decide +kernel) rfl
theorem ml_X4_77 : Cond.methodLink RX4 77 yX4_topics ∈ TB := tb_of 662 (by decide +kernel) rfl
theorem ml_X4_73 : Cond.methodLink RX4 73 yX4_en ∈ TB := tb_of 666 (by decide +kernel) rfl
theorem cn_X4_80 : Cond.constant RX4 80 (-1000004) ∈ TB := tb_of 670 (by decide +kernel) rfl
theorem ml_L_44 : Cond.methodLink "RumorTombsLaw" 44 yX4_tell ∈ TB := tb_of 671 (by decide +kernel) rfl
theorem ml_X4_95 : Cond.methodLink RX4 95 yX4_tells ∈ TB := tb_of 675 (by decide +kernel) rfl
theorem ml_X4_88 : Cond.methodLink RX4 88 yX4_isTopic ∈ TB := tb_of 679 (by decide +kernel) rfl
theorem ml_X4_91 : Cond.methodLink RX4 91 yX4_makes ∈ TB := tb_of 682 (by decide +kernel) rfl
theorem ml_L_48 : Cond.methodLink "RumorTombsLaw" 48 yX4_bury ∈ TB := tb_of 686 (by decide +kernel) rfl
theorem ml_X4_99 : Cond.methodLink RX4 99 yX4_buries ∈ TB := tb_of 690 (by decide +kernel) rfl
theorem ml_X4_81 : Cond.methodLink RX4 81 yX4_isNewer ∈ TB := tb_of 694 (by decide +kernel) rfl
theorem ml_L_52 : Cond.methodLink "RumorTombsLaw" 52 yX4_meet ∈ TB := tb_of 697 (by decide +kernel) rfl
theorem ml_X4_117 : Cond.methodLink RX4 117 yX4_meetsOne ∈ TB := tb_of 701 (by decide +kernel) rfl
theorem ml_X4_114 : Cond.methodLink RX4 114 yX4_meets ∈ TB := tb_of 705 (by decide +kernel) rfl
theorem ml_X4_108 : Cond.methodLink RX4 108 yX4_passes ∈ TB := tb_of 709 (by decide +kernel) rfl
theorem ml_X4_85 : Cond.methodLink RX4 85 yX4_hasNewer ∈ TB := tb_of 713 (by decide +kernel) rfl
theorem ml_X4_102 : Cond.methodLink RX4 102 yX4_mayPass ∈ TB := tb_of 717 (by decide +kernel) rfl
theorem ml_X4_105 : Cond.methodLink RX4 105 yX4_isGhost ∈ TB := tb_of 721 (by decide +kernel) rfl
theorem ml_X4_111 : Cond.methodLink RX4 111 yX4_areSame ∈ TB := tb_of 725 (by decide +kernel) rfl
theorem ml_L_57 : Cond.methodLink "RumorTombsLaw" 57 yX4_entryOf ∈ TB := tb_of 729 (by decide +kernel) rfl
theorem ml_X4_120 : Cond.methodLink RX4 120 yX4_isDead ∈ TB := tb_of 733 (by decide +kernel) rfl
theorem ml_L_61 : Cond.methodLink "RumorTombsLaw" 61 yX4_tick ∈ TB := tb_of 737 (by decide +kernel) rfl
theorem ml_X4_132 : Cond.methodLink RX4 132 yX4_ticks ∈ TB := tb_of 741 (by decide +kernel) rfl
theorem cn_X4_127 : Cond.constant RX4 127 (100000) ∈ TB := tb_of 745 (by decide +kernel) rfl
theorem ml_X4_128 : Cond.methodLink RX4 128 yX4_tickOne ∈ TB := tb_of 746 (by decide +kernel) rfl
theorem ml_X4_124 : Cond.methodLink RX4 124 yX4_drops ∈ TB := tb_of 750 (by decide +kernel) rfl
theorem ml_L_65 : Cond.methodLink "RumorTombsLaw" 65 yX4_newest ∈ TB := tb_of 754 (by decide +kernel) rfl
theorem ml_L_69 : Cond.methodLink "RumorTombsLaw" 69 yX4_unlike ∈ TB := tb_of 758 (by decide +kernel) rfl
theorem ml_L_73 : Cond.methodLink "RumorTombsLaw" 73 yX4_dead ∈ TB := tb_of 762 (by decide +kernel) rfl
theorem ml_L_77 : Cond.methodLink "RumorTombsLaw" 77 yX4_ghosts ∈ TB := tb_of 766 (by decide +kernel) rfl
theorem ml_X4_135 : Cond.methodLink RX4 135 yX4_puts ∈ TB := tb_of 770 (by decide +kernel) rfl
theorem ml_X4_138 : Cond.methodLink RX4 138 yX4_restores ∈ TB := tb_of 774 (by decide +kernel) rfl
theorem ml_L_81 : Cond.methodLink "RumorTombsLaw" 81 yX4_bestMeeting ∈ TB := tb_of 778 (by decide +kernel) rfl
theorem ml_L_85 : Cond.methodLink "RumorTombsLaw" 85 yX4_rounds ∈ TB := tb_of 782 (by decide +kernel) rfl
theorem ml_X4_144 : Cond.methodLink RX4 144 yX4_areAllSame ∈ TB := tb_of 786 (by decide +kernel) rfl
theorem ml_X4_141 : Cond.methodLink RX4 141 yX4_awakeBehind ∈ TB := tb_of 790 (by decide +kernel) rfl
theorem ml_X4_148 : Cond.methodLink RX4 148 yX4_round ∈ TB := tb_of 794 (by decide +kernel) rfl
theorem ml_L_89 : Cond.methodLink "RumorTombsLaw" 89 yX4_count ∈ TB := tb_of 798 (by decide +kernel) rfl
theorem ml_X4_151 : Cond.methodLink RX4 151 yX4_entries ∈ TB := tb_of 802 (by decide +kernel) rfl
theorem ml_L_93 : Cond.methodLink "RumorTombsLaw" 93 yX4_undo ∈ TB := tb_of 806 (by decide +kernel) rfl
theorem ml_L_97 : Cond.methodLink "RumorTombsLaw" 97 yX4_type ∈ TB := tb_of 810 (by decide +kernel) rfl
theorem ml_L_101 : Cond.methodLink "RumorTombsLaw" 101 yX4_clearText ∈ TB := tb_of 814 (by decide +kernel) rfl
theorem ml_L_105 : Cond.methodLink "RumorTombsLaw" 105 yX4_fault ∈ TB := tb_of 818 (by decide +kernel) rfl
theorem ml_X4_183 : Cond.methodLink RX4 183 yX4_faulty ∈ TB := tb_of 822 (by decide +kernel) rfl
theorem ml_X4_177 : Cond.methodLink RX4 177 yX4_doesNext ∈ TB := tb_of 826 (by decide +kernel) rfl
theorem ml_X4_167 : Cond.methodLink RX4 167 yX4_readsForm ∈ TB := tb_of 830 (by decide +kernel) rfl
theorem ml_X4_160 : Cond.methodLink RX4 160 yX4_number ∈ TB := tb_of 834 (by decide +kernel) rfl
theorem ml_X4_163 : Cond.methodLink RX4 163 yX4_has ∈ TB := tb_of 838 (by decide +kernel) rfl
theorem ml_X4_170 : Cond.methodLink RX4 170 yX4_isThere ∈ TB := tb_of 842 (by decide +kernel) rfl
theorem ml_X4_173 : Cond.methodLink RX4 173 yX4_does ∈ TB := tb_of 846 (by decide +kernel) rfl
theorem ml_L_109 : Cond.methodLink "RumorTombsLaw" 109 yX4_play ∈ TB := tb_of 850 (by decide +kernel) rfl
set_option maxRecDepth 20000 in
theorem mi_X3_villager : MI yX3_villager cX3_villager 1 (some .int) 0 := ⟨tb_of 195 (by decide +kernel) rfl, tb_of 196 (by decide +kernel) rfl, ini_X3, tb_of 197 (by exact rfl) rfl, ⟨by decide +kernel, by decide +kernel, by decide +kernel⟩, by decide +kernel⟩
set_option maxRecDepth 20000 in
theorem mi_X0_prepare : MI yX0_prepare cX0_prepare 2 none 1 := ⟨tb_of 199 (by decide +kernel) rfl, tb_of 200 (by decide +kernel) rfl, ini_X0, tb_of 201 (by exact rfl) rfl, ⟨by decide +kernel, by decide +kernel, by decide +kernel⟩, by decide +kernel⟩
set_option maxRecDepth 20000 in
theorem mi_X2_copyFrom : MI yX2_copyFrom cX2_copyFrom 2 none 1 := ⟨tb_of 203 (by decide +kernel) rfl, tb_of 204 (by decide +kernel) rfl, ini_X2, tb_of 205 (by exact rfl) rfl, ⟨by decide +kernel, by decide +kernel, by decide +kernel⟩, by decide +kernel⟩
set_option maxRecDepth 20000 in
theorem mi_X2_copyRow : MS yX2_copyRow cX2_copyRow 3 none 3 := ⟨tb_of 207 (by decide +kernel) rfl, ini_X2, tb_of 208 (by exact rfl) rfl, ⟨by decide +kernel, by decide +kernel, by decide +kernel⟩, by decide +kernel⟩
set_option maxRecDepth 20000 in
theorem mi_X2_addVillager : MI yX2_addVillager cX2_addVillager 1 (some .int) 0 := ⟨tb_of 213 (by decide +kernel) rfl, tb_of 214 (by decide +kernel) rfl, ini_X2, tb_of 215 (by exact rfl) rfl, ⟨by decide +kernel, by decide +kernel, by decide +kernel⟩, by decide +kernel⟩
set_option maxRecDepth 20000 in
theorem mi_X3_recorded : MI yX3_recorded cX3_recorded 2 (some .int) 1 := ⟨tb_of 219 (by decide +kernel) rfl, tb_of 0 (by decide +kernel) rfl, ini_X3, tb_of 220 (by exact rfl) rfl, ⟨by decide +kernel, by decide +kernel, by decide +kernel⟩, by decide +kernel⟩
set_option maxRecDepth 20000 in
theorem mi_X0_keep : MI yX0_keep cX0_keep 1 none 0 := ⟨tb_of 222 (by decide +kernel) rfl, tb_of 223 (by decide +kernel) rfl, ini_X0, tb_of 224 (by exact rfl) rfl, ⟨by decide +kernel, by decide +kernel, by decide +kernel⟩, by decide +kernel⟩
set_option maxRecDepth 20000 in
theorem mi_X0_dropOldest : MI yX0_dropOldest cX0_dropOldest 3 none 0 := ⟨tb_of 227 (by decide +kernel) rfl, tb_of 1 (by decide +kernel) rfl, ini_X0, tb_of 228 (by exact rfl) rfl, ⟨by decide +kernel, by decide +kernel, by decide +kernel⟩, by decide +kernel⟩
set_option maxRecDepth 20000 in
theorem mi_X3_sleep : MI yX3_sleep cX3_sleep 2 (some .int) 1 := ⟨tb_of 230 (by decide +kernel) rfl, tb_of 231 (by decide +kernel) rfl, ini_X3, tb_of 232 (by exact rfl) rfl, ⟨by decide +kernel, by decide +kernel, by decide +kernel⟩, by decide +kernel⟩
set_option maxRecDepth 20000 in
theorem mi_X2_fallAsleep : MI yX2_fallAsleep cX2_fallAsleep 2 (some .int) 1 := ⟨tb_of 234 (by decide +kernel) rfl, tb_of 235 (by decide +kernel) rfl, ini_X2, tb_of 236 (by exact rfl) rfl, ⟨by decide +kernel, by decide +kernel, by decide +kernel⟩, by decide +kernel⟩
set_option maxRecDepth 20000 in
theorem mi_X2_has : MI yX2_has cX2_has 2 (some .boolean) 1 := ⟨tb_of 238 (by decide +kernel) rfl, tb_of 239 (by decide +kernel) rfl, ini_X2, tb_of 240 (by exact rfl) rfl, ⟨by decide +kernel, by decide +kernel, by decide +kernel⟩, by decide +kernel⟩
set_option maxRecDepth 20000 in
theorem mi_X2_isAwake : MI yX2_isAwake cX2_isAwake 2 (some .boolean) 1 := ⟨tb_of 243 (by decide +kernel) rfl, tb_of 244 (by decide +kernel) rfl, ini_X2, tb_of 245 (by exact rfl) rfl, ⟨by decide +kernel, by decide +kernel, by decide +kernel⟩, by decide +kernel⟩
set_option maxRecDepth 20000 in
theorem mi_X2_howMany : MI yX2_howMany cX2_howMany 4 (some .int) 1 := ⟨tb_of 248 (by decide +kernel) rfl, tb_of 249 (by decide +kernel) rfl, ini_X2, tb_of 250 (by exact rfl) rfl, ⟨by decide +kernel, by decide +kernel, by decide +kernel⟩, by decide +kernel⟩
set_option maxRecDepth 20000 in
theorem mi_X3_wake : MI yX3_wake cX3_wake 2 (some .int) 1 := ⟨tb_of 252 (by decide +kernel) rfl, tb_of 253 (by decide +kernel) rfl, ini_X3, tb_of 254 (by exact rfl) rfl, ⟨by decide +kernel, by decide +kernel, by decide +kernel⟩, by decide +kernel⟩
set_option maxRecDepth 20000 in
theorem mi_X2_wakeUp : MI yX2_wakeUp cX2_wakeUp 2 (some .int) 1 := ⟨tb_of 256 (by decide +kernel) rfl, tb_of 257 (by decide +kernel) rfl, ini_X2, tb_of 258 (by exact rfl) rfl, ⟨by decide +kernel, by decide +kernel, by decide +kernel⟩, by decide +kernel⟩
set_option maxRecDepth 20000 in
theorem mi_X2_isAsleep : MI yX2_isAsleep cX2_isAsleep 2 (some .boolean) 1 := ⟨tb_of 260 (by decide +kernel) rfl, tb_of 261 (by decide +kernel) rfl, ini_X2, tb_of 262 (by exact rfl) rfl, ⟨by decide +kernel, by decide +kernel, by decide +kernel⟩, by decide +kernel⟩
set_option maxRecDepth 20000 in
theorem mi_X2_ticksAsleep : MI yX2_ticksAsleep cX2_ticksAsleep 2 (some .int) 1 := ⟨tb_of 264 (by decide +kernel) rfl, tb_of 265 (by decide +kernel) rfl, ini_X2, tb_of 266 (by exact rfl) rfl, ⟨by decide +kernel, by decide +kernel, by decide +kernel⟩, by decide +kernel⟩
set_option maxRecDepth 20000 in
theorem mi_X3_leave : MI yX3_leave cX3_leave 2 (some .int) 1 := ⟨tb_of 268 (by decide +kernel) rfl, tb_of 269 (by decide +kernel) rfl, ini_X3, tb_of 270 (by exact rfl) rfl, ⟨by decide +kernel, by decide +kernel, by decide +kernel⟩, by decide +kernel⟩
set_option maxRecDepth 20000 in
theorem mi_X2_goAway : MI yX2_goAway cX2_goAway 3 (some .int) 1 := ⟨tb_of 272 (by decide +kernel) rfl, tb_of 273 (by decide +kernel) rfl, ini_X2, tb_of 274 (by exact rfl) rfl, ⟨by decide +kernel, by decide +kernel, by decide +kernel⟩, by decide +kernel⟩
set_option maxRecDepth 20000 in
theorem mi_X3_place : MS yX3_place cX3_place 2 (some .int) 2 := ⟨tb_of 276 (by decide +kernel) rfl, ini_X3, tb_of 277 (by exact rfl) rfl, ⟨by decide +kernel, by decide +kernel, by decide +kernel⟩, by decide +kernel⟩
set_option maxRecDepth 20000 in
theorem mi_X3_watch : MI yX3_watch cX3_watch 2 (some .int) 1 := ⟨tb_of 279 (by decide +kernel) rfl, tb_of 280 (by decide +kernel) rfl, ini_X3, tb_of 281 (by exact rfl) rfl, ⟨by decide +kernel, by decide +kernel, by decide +kernel⟩, by decide +kernel⟩
set_option maxRecDepth 20000 in
theorem mi_X2_changeWatch : MI yX2_changeWatch cX2_changeWatch 3 (some .int) 1 := ⟨tb_of 283 (by decide +kernel) rfl, tb_of 284 (by decide +kernel) rfl, ini_X2, tb_of 285 (by exact rfl) rfl, ⟨by decide +kernel, by decide +kernel, by decide +kernel⟩, by decide +kernel⟩
set_option maxRecDepth 20000 in
theorem mi_X3_villagerOf : MI yX3_villagerOf cX3_villagerOf 3 (some .int) 2 := ⟨tb_of 287 (by decide +kernel) rfl, tb_of 288 (by decide +kernel) rfl, ini_X3, tb_of 289 (by exact rfl) rfl, ⟨by decide +kernel, by decide +kernel, by decide +kernel⟩, by decide +kernel⟩
set_option maxRecDepth 20000 in
theorem mi_X2_rumorTopics : MI yX2_rumorTopics cX2_rumorTopics 4 (some .int) 1 := ⟨tb_of 293 (by decide +kernel) rfl, tb_of 294 (by decide +kernel) rfl, ini_X2, tb_of 295 (by exact rfl) rfl, ⟨by decide +kernel, by decide +kernel, by decide +kernel⟩, by decide +kernel⟩
set_option maxRecDepth 20000 in
theorem mi_X2_isRumor : MI yX2_isRumor cX2_isRumor 2 (some .boolean) 1 := ⟨tb_of 297 (by decide +kernel) rfl, tb_of 298 (by decide +kernel) rfl, ini_X2, tb_of 299 (by exact rfl) rfl, ⟨by decide +kernel, by decide +kernel, by decide +kernel⟩, by decide +kernel⟩
set_option maxRecDepth 20000 in
theorem mi_X2_tombTopics : MI yX2_tombTopics cX2_tombTopics 4 (some .int) 1 := ⟨tb_of 301 (by decide +kernel) rfl, tb_of 302 (by decide +kernel) rfl, ini_X2, tb_of 303 (by exact rfl) rfl, ⟨by decide +kernel, by decide +kernel, by decide +kernel⟩, by decide +kernel⟩
set_option maxRecDepth 20000 in
theorem mi_X2_isTomb : MI yX2_isTomb cX2_isTomb 2 (some .boolean) 1 := ⟨tb_of 305 (by decide +kernel) rfl, tb_of 306 (by decide +kernel) rfl, ini_X2, tb_of 307 (by exact rfl) rfl, ⟨by decide +kernel, by decide +kernel, by decide +kernel⟩, by decide +kernel⟩
set_option maxRecDepth 20000 in
theorem mi_X3_tell : MI yX3_tell cX3_tell 5 (some .int) 4 := ⟨tb_of 312 (by decide +kernel) rfl, tb_of 313 (by decide +kernel) rfl, ini_X3, tb_of 314 (by exact rfl) rfl, ⟨by decide +kernel, by decide +kernel, by decide +kernel⟩, by decide +kernel⟩
set_option maxRecDepth 20000 in
theorem mi_X2_makeRumor : MI yX2_makeRumor cX2_makeRumor 6 (some .int) 4 := ⟨tb_of 316 (by decide +kernel) rfl, tb_of 317 (by decide +kernel) rfl, ini_X2, tb_of 318 (by exact rfl) rfl, ⟨by decide +kernel, by decide +kernel, by decide +kernel⟩, by decide +kernel⟩
set_option maxRecDepth 20000 in
theorem mi_X3_isTopic : MS yX3_isTopic cX3_isTopic 1 (some .boolean) 1 := ⟨tb_of 320 (by decide +kernel) rfl, ini_X3, tb_of 321 (by exact rfl) rfl, ⟨by decide +kernel, by decide +kernel, by decide +kernel⟩, by decide +kernel⟩
set_option maxRecDepth 20000 in
theorem mi_X2_write : MI yX2_write cX2_write 4 none 3 := ⟨tb_of 324 (by decide +kernel) rfl, tb_of 2 (by decide +kernel) rfl, ini_X2, tb_of 325 (by exact rfl) rfl, ⟨by decide +kernel, by decide +kernel, by decide +kernel⟩, by decide +kernel⟩
set_option maxRecDepth 20000 in
theorem mi_X3_bury : MI yX3_bury cX3_bury 3 (some .int) 2 := ⟨tb_of 327 (by decide +kernel) rfl, tb_of 328 (by decide +kernel) rfl, ini_X3, tb_of 329 (by exact rfl) rfl, ⟨by decide +kernel, by decide +kernel, by decide +kernel⟩, by decide +kernel⟩
set_option maxRecDepth 20000 in
theorem mi_X2_makeTomb : MI yX2_makeTomb cX2_makeTomb 4 (some .int) 2 := ⟨tb_of 331 (by decide +kernel) rfl, tb_of 332 (by decide +kernel) rfl, ini_X2, tb_of 333 (by exact rfl) rfl, ⟨by decide +kernel, by decide +kernel, by decide +kernel⟩, by decide +kernel⟩
set_option maxRecDepth 20000 in
theorem mi_X3_meet : MI yX3_meet cX3_meet 3 (some .int) 2 := ⟨tb_of 338 (by decide +kernel) rfl, tb_of 339 (by decide +kernel) rfl, ini_X3, tb_of 340 (by exact rfl) rfl, ⟨by decide +kernel, by decide +kernel, by decide +kernel⟩, by decide +kernel⟩
set_option maxRecDepth 20000 in
theorem mi_X2_bringTogether : MI yX2_bringTogether cX2_bringTogether 3 (some .int) 2 := ⟨tb_of 342 (by decide +kernel) rfl, tb_of 343 (by decide +kernel) rfl, ini_X2, tb_of 344 (by exact rfl) rfl, ⟨by decide +kernel, by decide +kernel, by decide +kernel⟩, by decide +kernel⟩
set_option maxRecDepth 20000 in
theorem mi_X2_areTwo : MI yX2_areTwo cX2_areTwo 3 (some .boolean) 2 := ⟨tb_of 346 (by decide +kernel) rfl, tb_of 347 (by decide +kernel) rfl, ini_X2, tb_of 348 (by exact rfl) rfl, ⟨by decide +kernel, by decide +kernel, by decide +kernel⟩, by decide +kernel⟩
set_option maxRecDepth 20000 in
theorem mi_X2_talk : MI yX2_talk cX2_talk 7 (some .int) 2 := ⟨tb_of 350 (by decide +kernel) rfl, tb_of 351 (by decide +kernel) rfl, ini_X2, tb_of 352 (by exact rfl) rfl, ⟨by decide +kernel, by decide +kernel, by decide +kernel⟩, by decide +kernel⟩
set_option maxRecDepth 20000 in
theorem mi_X2_giver : MI yX2_giver cX2_giver 8 (some .int) 3 := ⟨tb_of 355 (by decide +kernel) rfl, tb_of 3 (by decide +kernel) rfl, ini_X2, tb_of 356 (by exact rfl) rfl, ⟨by decide +kernel, by decide +kernel, by decide +kernel⟩, by decide +kernel⟩
set_option maxRecDepth 20000 in
theorem mi_X2_mayHand : MI yX2_mayHand cX2_mayHand 5 (some .boolean) 3 := ⟨tb_of 359 (by decide +kernel) rfl, tb_of 4 (by decide +kernel) rfl, ini_X2, tb_of 360 (by exact rfl) rfl, ⟨by decide +kernel, by decide +kernel, by decide +kernel⟩, by decide +kernel⟩
set_option maxRecDepth 20000 in
theorem mi_X2_author : MI yX2_author cX2_author 2 (some .int) 1 := ⟨tb_of 362 (by decide +kernel) rfl, tb_of 363 (by decide +kernel) rfl, ini_X2, tb_of 364 (by exact rfl) rfl, ⟨by decide +kernel, by decide +kernel, by decide +kernel⟩, by decide +kernel⟩
set_option maxRecDepth 20000 in
theorem mi_X2_hand : MI yX2_hand cX2_hand 6 none 3 := ⟨tb_of 367 (by decide +kernel) rfl, tb_of 5 (by decide +kernel) rfl, ini_X2, tb_of 368 (by exact rfl) rfl, ⟨by decide +kernel, by decide +kernel, by decide +kernel⟩, by decide +kernel⟩
set_option maxRecDepth 20000 in
theorem mi_X2_shareSight : MI yX2_shareSight cX2_shareSight 7 none 3 := ⟨tb_of 371 (by decide +kernel) rfl, tb_of 6 (by decide +kernel) rfl, ini_X2, tb_of 372 (by exact rfl) rfl, ⟨by decide +kernel, by decide +kernel, by decide +kernel⟩, by decide +kernel⟩
set_option maxRecDepth 20000 in
theorem mi_X3_entryOf : MI yX3_entryOf cX3_entryOf 6 (some .int) 3 := ⟨tb_of 374 (by decide +kernel) rfl, tb_of 375 (by decide +kernel) rfl, ini_X3, tb_of 376 (by exact rfl) rfl, ⟨by decide +kernel, by decide +kernel, by decide +kernel⟩, by decide +kernel⟩
set_option maxRecDepth 20000 in
theorem mi_X2_isDead : MI yX2_isDead cX2_isDead 4 (some .boolean) 2 := ⟨tb_of 382 (by decide +kernel) rfl, tb_of 383 (by decide +kernel) rfl, ini_X2, tb_of 384 (by exact rfl) rfl, ⟨by decide +kernel, by decide +kernel, by decide +kernel⟩, by decide +kernel⟩
set_option maxRecDepth 20000 in
theorem mi_X3_tick : MI yX3_tick cX3_tick 2 (some .int) 1 := ⟨tb_of 386 (by decide +kernel) rfl, tb_of 387 (by decide +kernel) rfl, ini_X3, tb_of 388 (by exact rfl) rfl, ⟨by decide +kernel, by decide +kernel, by decide +kernel⟩, by decide +kernel⟩
set_option maxRecDepth 20000 in
theorem mi_X2_letGoBy : MI yX2_letGoBy cX2_letGoBy 2 (some .int) 1 := ⟨tb_of 390 (by decide +kernel) rfl, tb_of 391 (by decide +kernel) rfl, ini_X2, tb_of 392 (by exact rfl) rfl, ⟨by decide +kernel, by decide +kernel, by decide +kernel⟩, by decide +kernel⟩
set_option maxRecDepth 20000 in
theorem mi_X2_pass : MI yX2_pass cX2_pass 7 (some .int) 1 := ⟨tb_of 395 (by decide +kernel) rfl, tb_of 396 (by decide +kernel) rfl, ini_X2, tb_of 397 (by exact rfl) rfl, ⟨by decide +kernel, by decide +kernel, by decide +kernel⟩, by decide +kernel⟩
set_option maxRecDepth 20000 in
theorem mi_X2_present : MI yX2_present cX2_present 3 (some .int) 0 := ⟨tb_of 400 (by decide +kernel) rfl, tb_of 7 (by decide +kernel) rfl, ini_X2, tb_of 401 (by exact rfl) rfl, ⟨by decide +kernel, by decide +kernel, by decide +kernel⟩, by decide +kernel⟩
set_option maxRecDepth 20000 in
theorem mi_X2_isOver : MI yX2_isOver cX2_isOver 3 (some .boolean) 2 := ⟨tb_of 404 (by decide +kernel) rfl, tb_of 8 (by decide +kernel) rfl, ini_X2, tb_of 405 (by exact rfl) rfl, ⟨by decide +kernel, by decide +kernel, by decide +kernel⟩, by decide +kernel⟩
set_option maxRecDepth 20000 in
theorem mi_X3_newest : MI yX3_newest cX3_newest 3 (some .int) 1 := ⟨tb_of 407 (by decide +kernel) rfl, tb_of 408 (by decide +kernel) rfl, ini_X3, tb_of 409 (by exact rfl) rfl, ⟨by decide +kernel, by decide +kernel, by decide +kernel⟩, by decide +kernel⟩
set_option maxRecDepth 20000 in
theorem mi_X2_holdersOfNewest : MI yX2_holdersOfNewest cX2_holdersOfNewest 6 (some .int) 1 := ⟨tb_of 411 (by decide +kernel) rfl, tb_of 412 (by decide +kernel) rfl, ini_X2, tb_of 413 (by exact rfl) rfl, ⟨by decide +kernel, by decide +kernel, by decide +kernel⟩, by decide +kernel⟩
set_option maxRecDepth 20000 in
theorem mi_X3_unlike : MI yX3_unlike cX3_unlike 3 (some .int) 2 := ⟨tb_of 415 (by decide +kernel) rfl, tb_of 416 (by decide +kernel) rfl, ini_X3, tb_of 417 (by exact rfl) rfl, ⟨by decide +kernel, by decide +kernel, by decide +kernel⟩, by decide +kernel⟩
set_option maxRecDepth 20000 in
theorem mi_X2_unlikeTopics : MI yX2_unlikeTopics cX2_unlikeTopics 5 (some .int) 2 := ⟨tb_of 419 (by decide +kernel) rfl, tb_of 420 (by decide +kernel) rfl, ini_X2, tb_of 421 (by exact rfl) rfl, ⟨by decide +kernel, by decide +kernel, by decide +kernel⟩, by decide +kernel⟩
set_option maxRecDepth 20000 in
theorem mi_X3_dead : MI yX3_dead cX3_dead 2 (some .int) 1 := ⟨tb_of 423 (by decide +kernel) rfl, tb_of 424 (by decide +kernel) rfl, ini_X3, tb_of 425 (by exact rfl) rfl, ⟨by decide +kernel, by decide +kernel, by decide +kernel⟩, by decide +kernel⟩
set_option maxRecDepth 20000 in
theorem mi_X2_deadTopics : MI yX2_deadTopics cX2_deadTopics 4 (some .int) 1 := ⟨tb_of 427 (by decide +kernel) rfl, tb_of 428 (by decide +kernel) rfl, ini_X2, tb_of 429 (by exact rfl) rfl, ⟨by decide +kernel, by decide +kernel, by decide +kernel⟩, by decide +kernel⟩
set_option maxRecDepth 20000 in
theorem mi_X3_ghosts : MI yX3_ghosts cX3_ghosts 4 (some .int) 3 := ⟨tb_of 432 (by decide +kernel) rfl, tb_of 433 (by decide +kernel) rfl, ini_X3, tb_of 434 (by exact rfl) rfl, ⟨by decide +kernel, by decide +kernel, by decide +kernel⟩, by decide +kernel⟩
set_option maxRecDepth 20000 in
theorem mi_X2_allGhosts : MI yX2_allGhosts cX2_allGhosts 3 (some .int) 0 := ⟨tb_of 441 (by decide +kernel) rfl, tb_of 442 (by decide +kernel) rfl, ini_X2, tb_of 443 (by exact rfl) rfl, ⟨by decide +kernel, by decide +kernel, by decide +kernel⟩, by decide +kernel⟩
set_option maxRecDepth 20000 in
theorem mi_X3_bestMeeting : MI yX3_bestMeeting cX3_bestMeeting 7 (some .int) 1 := ⟨tb_of 445 (by decide +kernel) rfl, tb_of 446 (by decide +kernel) rfl, ini_X3, tb_of 447 (by exact rfl) rfl, ⟨by decide +kernel, by decide +kernel, by decide +kernel⟩, by decide +kernel⟩
set_option maxRecDepth 20000 in
theorem mi_X2_wouldPass : MI yX2_wouldPass cX2_wouldPass 5 (some .int) 2 := ⟨tb_of 450 (by decide +kernel) rfl, tb_of 451 (by decide +kernel) rfl, ini_X2, tb_of 452 (by exact rfl) rfl, ⟨by decide +kernel, by decide +kernel, by decide +kernel⟩, by decide +kernel⟩
set_option maxRecDepth 20000 in
theorem mi_X3_rounds : MI yX3_rounds cX3_rounds 2 (some .int) 0 := ⟨tb_of 454 (by decide +kernel) rfl, tb_of 455 (by decide +kernel) rfl, ini_X3, tb_of 456 (by exact rfl) rfl, ⟨by decide +kernel, by decide +kernel, by decide +kernel⟩, by decide +kernel⟩
set_option maxRecDepth 20000 in
theorem mi_X2_awakeAreAlike : MI yX2_awakeAreAlike cX2_awakeAreAlike 3 (some .boolean) 0 := ⟨tb_of 458 (by decide +kernel) rfl, tb_of 459 (by decide +kernel) rfl, ini_X2, tb_of 460 (by exact rfl) rfl, ⟨by decide +kernel, by decide +kernel, by decide +kernel⟩, by decide +kernel⟩
set_option maxRecDepth 20000 in
theorem mi_X2_meetInTurn : MI yX2_meetInTurn cX2_meetInTurn 4 none 0 := ⟨tb_of 463 (by decide +kernel) rfl, tb_of 464 (by decide +kernel) rfl, ini_X2, tb_of 465 (by exact rfl) rfl, ⟨by decide +kernel, by decide +kernel, by decide +kernel⟩, by decide +kernel⟩
set_option maxRecDepth 20000 in
theorem mi_X3_count : MI yX3_count cX3_count 2 (some .int) 1 := ⟨tb_of 467 (by decide +kernel) rfl, tb_of 468 (by decide +kernel) rfl, ini_X3, tb_of 469 (by exact rfl) rfl, ⟨by decide +kernel, by decide +kernel, by decide +kernel⟩, by decide +kernel⟩
set_option maxRecDepth 20000 in
theorem mi_X2_allRumors : MI yX2_allRumors cX2_allRumors 3 (some .int) 0 := ⟨tb_of 472 (by decide +kernel) rfl, tb_of 473 (by decide +kernel) rfl, ini_X2, tb_of 474 (by exact rfl) rfl, ⟨by decide +kernel, by decide +kernel, by decide +kernel⟩, by decide +kernel⟩
set_option maxRecDepth 20000 in
theorem mi_J6_bitCount_0f7a4 : MS yJ6_bitCount_0f7a4 cJ6_bitCount_0f7a4 1 (some .int) 1 := ⟨tb_of 477 (by decide +kernel) rfl, ini_J6, tb_of 478 (by exact rfl) rfl, ⟨by decide +kernel, by decide +kernel, by decide +kernel⟩, by decide +kernel⟩
set_option maxRecDepth 20000 in
theorem mi_X2_allTombs : MI yX2_allTombs cX2_allTombs 3 (some .int) 0 := ⟨tb_of 483 (by decide +kernel) rfl, tb_of 484 (by decide +kernel) rfl, ini_X2, tb_of 485 (by exact rfl) rfl, ⟨by decide +kernel, by decide +kernel, by decide +kernel⟩, by decide +kernel⟩
set_option maxRecDepth 20000 in
theorem mi_X2_allDead : MI yX2_allDead cX2_allDead 3 (some .int) 0 := ⟨tb_of 488 (by decide +kernel) rfl, tb_of 489 (by decide +kernel) rfl, ini_X2, tb_of 490 (by exact rfl) rfl, ⟨by decide +kernel, by decide +kernel, by decide +kernel⟩, by decide +kernel⟩
set_option maxRecDepth 20000 in
theorem mi_X3_undo : MI yX3_undo cX3_undo 1 (some .int) 0 := ⟨tb_of 493 (by decide +kernel) rfl, tb_of 494 (by decide +kernel) rfl, ini_X3, tb_of 495 (by exact rfl) rfl, ⟨by decide +kernel, by decide +kernel, by decide +kernel⟩, by decide +kernel⟩
set_option maxRecDepth 20000 in
theorem mi_X0_restore : MI yX0_restore cX0_restore 2 none 1 := ⟨tb_of 497 (by decide +kernel) rfl, tb_of 498 (by decide +kernel) rfl, ini_X0, tb_of 499 (by exact rfl) rfl, ⟨by decide +kernel, by decide +kernel, by decide +kernel⟩, by decide +kernel⟩
set_option maxRecDepth 20000 in
theorem mi_X3_type : MI yX3_type cX3_type 2 (some .int) 1 := ⟨tb_of 501 (by decide +kernel) rfl, tb_of 502 (by decide +kernel) rfl, ini_X3, tb_of 503 (by exact rfl) rfl, ⟨by decide +kernel, by decide +kernel, by decide +kernel⟩, by decide +kernel⟩
set_option maxRecDepth 20000 in
theorem mi_X1_append : MI yX1_append cX1_append 2 (some .boolean) 1 := ⟨tb_of 505 (by decide +kernel) rfl, tb_of 506 (by decide +kernel) rfl, ini_X1, tb_of 507 (by exact rfl) rfl, ⟨by decide +kernel, by decide +kernel, by decide +kernel⟩, by decide +kernel⟩
set_option maxRecDepth 20000 in
theorem mi_X3_clearText : MI yX3_clearText cX3_clearText 2 (some .int) 0 := ⟨tb_of 510 (by decide +kernel) rfl, tb_of 511 (by decide +kernel) rfl, ini_X3, tb_of 512 (by exact rfl) rfl, ⟨by decide +kernel, by decide +kernel, by decide +kernel⟩, by decide +kernel⟩
set_option maxRecDepth 20000 in
theorem mi_X3_fault : MI yX3_fault cX3_fault 2 (some .int) 1 := ⟨tb_of 514 (by decide +kernel) rfl, tb_of 515 (by decide +kernel) rfl, ini_X3, tb_of 516 (by exact rfl) rfl, ⟨by decide +kernel, by decide +kernel, by decide +kernel⟩, by decide +kernel⟩
set_option maxRecDepth 20000 in
theorem mi_X1_carryOut : MI yX1_carryOut cX1_carryOut 4 none 1 := ⟨tb_of 518 (by decide +kernel) rfl, tb_of 519 (by decide +kernel) rfl, ini_X1, tb_of 520 (by exact rfl) rfl, ⟨by decide +kernel, by decide +kernel, by decide +kernel⟩, by decide +kernel⟩
set_option maxRecDepth 20000 in
theorem mi_X1_tryOrder : MI yX1_tryOrder cX1_tryOrder 4 (some .int) 3 := ⟨tb_of 523 (by decide +kernel) rfl, tb_of 9 (by decide +kernel) rfl, ini_X1, tb_of 524 (by exact rfl) rfl, ⟨by decide +kernel, by decide +kernel, by decide +kernel⟩, by decide +kernel⟩
set_option maxRecDepth 20000 in
theorem mi_X1_readNumbers : MI yX1_readNumbers cX1_readNumbers 10 (some .boolean) 2 := ⟨tb_of 527 (by decide +kernel) rfl, tb_of 10 (by decide +kernel) rfl, ini_X1, tb_of 528 (by exact rfl) rfl, ⟨by decide +kernel, by decide +kernel, by decide +kernel⟩, by decide +kernel⟩
set_option maxRecDepth 20000 in
theorem mi_X1_numbersOf : MS yX1_numbersOf cX1_numbersOf 1 (some .int) 1 := ⟨tb_of 530 (by decide +kernel) rfl, ini_X1, tb_of 531 (by exact rfl) rfl, ⟨by decide +kernel, by decide +kernel, by decide +kernel⟩, by decide +kernel⟩
set_option maxRecDepth 20000 in
theorem mi_X1_namesExist : MI yX1_namesExist cX1_namesExist 3 (some .boolean) 2 := ⟨tb_of 534 (by decide +kernel) rfl, tb_of 11 (by decide +kernel) rfl, ini_X1, tb_of 535 (by exact rfl) rfl, ⟨by decide +kernel, by decide +kernel, by decide +kernel⟩, by decide +kernel⟩
set_option maxRecDepth 20000 in
theorem mi_X1_doOrder : MI yX1_doOrder cX1_doOrder 3 (some .int) 2 := ⟨tb_of 540 (by decide +kernel) rfl, tb_of 12 (by decide +kernel) rfl, ini_X1, tb_of 541 (by exact rfl) rfl, ⟨by decide +kernel, by decide +kernel, by decide +kernel⟩, by decide +kernel⟩
set_option maxRecDepth 20000 in
theorem mi_X1_setFault : MI yX1_setFault cX1_setFault 3 none 2 := ⟨tb_of 550 (by decide +kernel) rfl, tb_of 13 (by decide +kernel) rfl, ini_X1, tb_of 551 (by exact rfl) rfl, ⟨by decide +kernel, by decide +kernel, by decide +kernel⟩, by decide +kernel⟩
set_option maxRecDepth 20000 in
theorem mi_X3_play : MI yX3_play cX3_play 1 (some .int) 0 := ⟨tb_of 553 (by decide +kernel) rfl, tb_of 554 (by decide +kernel) rfl, ini_X3, tb_of 555 (by exact rfl) rfl, ⟨by decide +kernel, by decide +kernel, by decide +kernel⟩, by decide +kernel⟩
set_option maxRecDepth 20000 in
theorem mi_X4_villager : MI yX4_villager cX4_villager 3 (some .int) 0 := ⟨tb_of 594 (by decide +kernel) rfl, tb_of 595 (by decide +kernel) rfl, ini_X4, tb_of 596 (by exact rfl) rfl, ⟨by decide +kernel, by decide +kernel, by decide +kernel⟩, by decide +kernel⟩
set_option maxRecDepth 20000 in
theorem mi_X4_keeps : MI yX4_keeps cX4_keeps 2 none 0 := ⟨tb_of 600 (by decide +kernel) rfl, tb_of 14 (by decide +kernel) rfl, ini_X4, tb_of 601 (by exact rfl) rfl, ⟨by decide +kernel, by decide +kernel, by decide +kernel⟩, by decide +kernel⟩
set_option maxRecDepth 20000 in
theorem mi_X4_acted : MI yX4_acted cX4_acted 3 (some .int) 1 := ⟨tb_of 604 (by decide +kernel) rfl, tb_of 15 (by decide +kernel) rfl, ini_X4, tb_of 605 (by exact rfl) rfl, ⟨by decide +kernel, by decide +kernel, by decide +kernel⟩, by decide +kernel⟩
set_option maxRecDepth 20000 in
theorem mi_X4_sleep : MI yX4_sleep cX4_sleep 2 (some .int) 1 := ⟨tb_of 608 (by decide +kernel) rfl, tb_of 609 (by decide +kernel) rfl, ini_X4, tb_of 610 (by exact rfl) rfl, ⟨by decide +kernel, by decide +kernel, by decide +kernel⟩, by decide +kernel⟩
set_option maxRecDepth 20000 in
theorem mi_X4_sleeps : MI yX4_sleeps cX4_sleeps 2 (some .int) 1 := ⟨tb_of 613 (by decide +kernel) rfl, tb_of 16 (by decide +kernel) rfl, ini_X4, tb_of 614 (by exact rfl) rfl, ⟨by decide +kernel, by decide +kernel, by decide +kernel⟩, by decide +kernel⟩
set_option maxRecDepth 20000 in
theorem mi_X4_isVillager : MI yX4_isVillager cX4_isVillager 2 (some .boolean) 1 := ⟨tb_of 617 (by decide +kernel) rfl, tb_of 17 (by decide +kernel) rfl, ini_X4, tb_of 618 (by exact rfl) rfl, ⟨by decide +kernel, by decide +kernel, by decide +kernel⟩, by decide +kernel⟩
set_option maxRecDepth 20000 in
theorem mi_X4_in : MS yX4_in cX4_in 3 (some .boolean) 3 := ⟨tb_of 620 (by decide +kernel) rfl, ini_X4, tb_of 621 (by exact rfl) rfl, ⟨by decide +kernel, by decide +kernel, by decide +kernel⟩, by decide +kernel⟩
set_option maxRecDepth 20000 in
theorem mi_X4_isAwake : MI yX4_isAwake cX4_isAwake 2 (some .boolean) 1 := ⟨tb_of 624 (by decide +kernel) rfl, tb_of 18 (by decide +kernel) rfl, ini_X4, tb_of 625 (by exact rfl) rfl, ⟨by decide +kernel, by decide +kernel, by decide +kernel⟩, by decide +kernel⟩
set_option maxRecDepth 20000 in
theorem mi_X4_vi : MI yX4_vi cX4_vi 3 (some .int) 2 := ⟨tb_of 628 (by decide +kernel) rfl, tb_of 19 (by decide +kernel) rfl, ini_X4, tb_of 629 (by exact rfl) rfl, ⟨by decide +kernel, by decide +kernel, by decide +kernel⟩, by decide +kernel⟩
set_option maxRecDepth 20000 in
theorem mi_X4_many : MI yX4_many cX4_many 4 (some .int) 1 := ⟨tb_of 633 (by decide +kernel) rfl, tb_of 20 (by decide +kernel) rfl, ini_X4, tb_of 634 (by exact rfl) rfl, ⟨by decide +kernel, by decide +kernel, by decide +kernel⟩, by decide +kernel⟩
set_option maxRecDepth 20000 in
theorem mi_X4_wake : MI yX4_wake cX4_wake 2 (some .int) 1 := ⟨tb_of 636 (by decide +kernel) rfl, tb_of 637 (by decide +kernel) rfl, ini_X4, tb_of 638 (by exact rfl) rfl, ⟨by decide +kernel, by decide +kernel, by decide +kernel⟩, by decide +kernel⟩
set_option maxRecDepth 20000 in
theorem mi_X4_wakes : MI yX4_wakes cX4_wakes 2 (some .int) 1 := ⟨tb_of 641 (by decide +kernel) rfl, tb_of 21 (by decide +kernel) rfl, ini_X4, tb_of 642 (by exact rfl) rfl, ⟨by decide +kernel, by decide +kernel, by decide +kernel⟩, by decide +kernel⟩
set_option maxRecDepth 20000 in
theorem mi_X4_leave : MI yX4_leave cX4_leave 3 (some .int) 1 := ⟨tb_of 644 (by decide +kernel) rfl, tb_of 645 (by decide +kernel) rfl, ini_X4, tb_of 646 (by exact rfl) rfl, ⟨by decide +kernel, by decide +kernel, by decide +kernel⟩, by decide +kernel⟩
set_option maxRecDepth 20000 in
theorem mi_X4_isGone : MI yX4_isGone cX4_isGone 2 (some .boolean) 1 := ⟨tb_of 649 (by decide +kernel) rfl, tb_of 22 (by decide +kernel) rfl, ini_X4, tb_of 650 (by exact rfl) rfl, ⟨by decide +kernel, by decide +kernel, by decide +kernel⟩, by decide +kernel⟩
set_option maxRecDepth 20000 in
theorem mi_X4_place : MS yX4_place cX4_place 2 (some .int) 2 := ⟨tb_of 652 (by decide +kernel) rfl, ini_X4, tb_of 653 (by exact rfl) rfl, ⟨by decide +kernel, by decide +kernel, by decide +kernel⟩, by decide +kernel⟩
set_option maxRecDepth 20000 in
theorem mi_X4_watch : MI yX4_watch cX4_watch 3 (some .int) 1 := ⟨tb_of 655 (by decide +kernel) rfl, tb_of 656 (by decide +kernel) rfl, ini_X4, tb_of 657 (by exact rfl) rfl, ⟨by decide +kernel, by decide +kernel, by decide +kernel⟩, by decide +kernel⟩
set_option maxRecDepth 20000 in
theorem mi_X4_villagerOf : MI yX4_villagerOf cX4_villagerOf 3 (some .int) 2 := ⟨tb_of 659 (by decide +kernel) rfl, tb_of 660 (by decide +kernel) rfl, ini_X4, tb_of 661 (by exact rfl) rfl, ⟨by decide +kernel, by decide +kernel, by decide +kernel⟩, by decide +kernel⟩
set_option maxRecDepth 20000 in
theorem mi_X4_topics : MI yX4_topics cX4_topics 5 (some .int) 2 := ⟨tb_of 664 (by decide +kernel) rfl, tb_of 23 (by decide +kernel) rfl, ini_X4, tb_of 665 (by exact rfl) rfl, ⟨by decide +kernel, by decide +kernel, by decide +kernel⟩, by decide +kernel⟩
set_option maxRecDepth 20000 in
theorem mi_X4_en : MI yX4_en cX4_en 4 (some .int) 3 := ⟨tb_of 668 (by decide +kernel) rfl, tb_of 24 (by decide +kernel) rfl, ini_X4, tb_of 669 (by exact rfl) rfl, ⟨by decide +kernel, by decide +kernel, by decide +kernel⟩, by decide +kernel⟩
set_option maxRecDepth 20000 in
theorem mi_X4_tell : MI yX4_tell cX4_tell 5 (some .int) 4 := ⟨tb_of 672 (by decide +kernel) rfl, tb_of 673 (by decide +kernel) rfl, ini_X4, tb_of 674 (by exact rfl) rfl, ⟨by decide +kernel, by decide +kernel, by decide +kernel⟩, by decide +kernel⟩
set_option maxRecDepth 20000 in
theorem mi_X4_tells : MI yX4_tells cX4_tells 5 (some .int) 4 := ⟨tb_of 677 (by decide +kernel) rfl, tb_of 25 (by decide +kernel) rfl, ini_X4, tb_of 678 (by exact rfl) rfl, ⟨by decide +kernel, by decide +kernel, by decide +kernel⟩, by decide +kernel⟩
set_option maxRecDepth 20000 in
theorem mi_X4_isTopic : MS yX4_isTopic cX4_isTopic 1 (some .boolean) 1 := ⟨tb_of 680 (by decide +kernel) rfl, ini_X4, tb_of 681 (by exact rfl) rfl, ⟨by decide +kernel, by decide +kernel, by decide +kernel⟩, by decide +kernel⟩
set_option maxRecDepth 20000 in
theorem mi_X4_makes : MI yX4_makes cX4_makes 7 (some .int) 5 := ⟨tb_of 684 (by decide +kernel) rfl, tb_of 26 (by decide +kernel) rfl, ini_X4, tb_of 685 (by exact rfl) rfl, ⟨by decide +kernel, by decide +kernel, by decide +kernel⟩, by decide +kernel⟩
set_option maxRecDepth 20000 in
theorem mi_X4_bury : MI yX4_bury cX4_bury 3 (some .int) 2 := ⟨tb_of 687 (by decide +kernel) rfl, tb_of 688 (by decide +kernel) rfl, ini_X4, tb_of 689 (by exact rfl) rfl, ⟨by decide +kernel, by decide +kernel, by decide +kernel⟩, by decide +kernel⟩
set_option maxRecDepth 20000 in
theorem mi_X4_buries : MI yX4_buries cX4_buries 4 (some .int) 2 := ⟨tb_of 692 (by decide +kernel) rfl, tb_of 27 (by decide +kernel) rfl, ini_X4, tb_of 693 (by exact rfl) rfl, ⟨by decide +kernel, by decide +kernel, by decide +kernel⟩, by decide +kernel⟩
set_option maxRecDepth 20000 in
theorem mi_X4_isNewer : MS yX4_isNewer cX4_isNewer 4 (some .boolean) 4 := ⟨tb_of 695 (by decide +kernel) rfl, ini_X4, tb_of 696 (by exact rfl) rfl, ⟨by decide +kernel, by decide +kernel, by decide +kernel⟩, by decide +kernel⟩
set_option maxRecDepth 20000 in
theorem mi_X4_meet : MI yX4_meet cX4_meet 3 (some .int) 2 := ⟨tb_of 698 (by decide +kernel) rfl, tb_of 699 (by decide +kernel) rfl, ini_X4, tb_of 700 (by exact rfl) rfl, ⟨by decide +kernel, by decide +kernel, by decide +kernel⟩, by decide +kernel⟩
set_option maxRecDepth 20000 in
theorem mi_X4_meetsOne : MI yX4_meetsOne cX4_meetsOne 3 (some .int) 2 := ⟨tb_of 703 (by decide +kernel) rfl, tb_of 28 (by decide +kernel) rfl, ini_X4, tb_of 704 (by exact rfl) rfl, ⟨by decide +kernel, by decide +kernel, by decide +kernel⟩, by decide +kernel⟩
set_option maxRecDepth 20000 in
theorem mi_X4_meets : MI yX4_meets cX4_meets 8 (some .int) 2 := ⟨tb_of 707 (by decide +kernel) rfl, tb_of 29 (by decide +kernel) rfl, ini_X4, tb_of 708 (by exact rfl) rfl, ⟨by decide +kernel, by decide +kernel, by decide +kernel⟩, by decide +kernel⟩
set_option maxRecDepth 20000 in
theorem mi_X4_passes : MI yX4_passes cX4_passes 5 (some .int) 3 := ⟨tb_of 711 (by decide +kernel) rfl, tb_of 30 (by decide +kernel) rfl, ini_X4, tb_of 712 (by exact rfl) rfl, ⟨by decide +kernel, by decide +kernel, by decide +kernel⟩, by decide +kernel⟩
set_option maxRecDepth 20000 in
theorem mi_X4_hasNewer : MI yX4_hasNewer cX4_hasNewer 4 (some .boolean) 3 := ⟨tb_of 715 (by decide +kernel) rfl, tb_of 31 (by decide +kernel) rfl, ini_X4, tb_of 716 (by exact rfl) rfl, ⟨by decide +kernel, by decide +kernel, by decide +kernel⟩, by decide +kernel⟩
set_option maxRecDepth 20000 in
theorem mi_X4_mayPass : MI yX4_mayPass cX4_mayPass 5 (some .boolean) 3 := ⟨tb_of 719 (by decide +kernel) rfl, tb_of 32 (by decide +kernel) rfl, ini_X4, tb_of 720 (by exact rfl) rfl, ⟨by decide +kernel, by decide +kernel, by decide +kernel⟩, by decide +kernel⟩
set_option maxRecDepth 20000 in
theorem mi_X4_isGhost : MI yX4_isGhost cX4_isGhost 5 (some .boolean) 3 := ⟨tb_of 723 (by decide +kernel) rfl, tb_of 33 (by decide +kernel) rfl, ini_X4, tb_of 724 (by exact rfl) rfl, ⟨by decide +kernel, by decide +kernel, by decide +kernel⟩, by decide +kernel⟩
set_option maxRecDepth 20000 in
theorem mi_X4_areSame : MI yX4_areSame cX4_areSame 4 (some .boolean) 3 := ⟨tb_of 727 (by decide +kernel) rfl, tb_of 34 (by decide +kernel) rfl, ini_X4, tb_of 728 (by exact rfl) rfl, ⟨by decide +kernel, by decide +kernel, by decide +kernel⟩, by decide +kernel⟩
set_option maxRecDepth 20000 in
theorem mi_X4_entryOf : MI yX4_entryOf cX4_entryOf 6 (some .int) 3 := ⟨tb_of 730 (by decide +kernel) rfl, tb_of 731 (by decide +kernel) rfl, ini_X4, tb_of 732 (by exact rfl) rfl, ⟨by decide +kernel, by decide +kernel, by decide +kernel⟩, by decide +kernel⟩
set_option maxRecDepth 20000 in
theorem mi_X4_isDead : MI yX4_isDead cX4_isDead 3 (some .boolean) 2 := ⟨tb_of 735 (by decide +kernel) rfl, tb_of 35 (by decide +kernel) rfl, ini_X4, tb_of 736 (by exact rfl) rfl, ⟨by decide +kernel, by decide +kernel, by decide +kernel⟩, by decide +kernel⟩
set_option maxRecDepth 20000 in
theorem mi_X4_tick : MI yX4_tick cX4_tick 2 (some .int) 1 := ⟨tb_of 738 (by decide +kernel) rfl, tb_of 739 (by decide +kernel) rfl, ini_X4, tb_of 740 (by exact rfl) rfl, ⟨by decide +kernel, by decide +kernel, by decide +kernel⟩, by decide +kernel⟩
set_option maxRecDepth 20000 in
theorem mi_X4_ticks : MI yX4_ticks cX4_ticks 4 (some .int) 1 := ⟨tb_of 743 (by decide +kernel) rfl, tb_of 36 (by decide +kernel) rfl, ini_X4, tb_of 744 (by exact rfl) rfl, ⟨by decide +kernel, by decide +kernel, by decide +kernel⟩, by decide +kernel⟩
set_option maxRecDepth 20000 in
theorem mi_X4_tickOne : MI yX4_tickOne cX4_tickOne 5 (some .int) 0 := ⟨tb_of 748 (by decide +kernel) rfl, tb_of 37 (by decide +kernel) rfl, ini_X4, tb_of 749 (by exact rfl) rfl, ⟨by decide +kernel, by decide +kernel, by decide +kernel⟩, by decide +kernel⟩
set_option maxRecDepth 20000 in
theorem mi_X4_drops : MI yX4_drops cX4_drops 6 (some .int) 3 := ⟨tb_of 752 (by decide +kernel) rfl, tb_of 38 (by decide +kernel) rfl, ini_X4, tb_of 753 (by exact rfl) rfl, ⟨by decide +kernel, by decide +kernel, by decide +kernel⟩, by decide +kernel⟩
set_option maxRecDepth 20000 in
theorem mi_X4_newest : MI yX4_newest cX4_newest 5 (some .int) 1 := ⟨tb_of 755 (by decide +kernel) rfl, tb_of 756 (by decide +kernel) rfl, ini_X4, tb_of 757 (by exact rfl) rfl, ⟨by decide +kernel, by decide +kernel, by decide +kernel⟩, by decide +kernel⟩
set_option maxRecDepth 20000 in
theorem mi_X4_unlike : MI yX4_unlike cX4_unlike 5 (some .int) 2 := ⟨tb_of 759 (by decide +kernel) rfl, tb_of 760 (by decide +kernel) rfl, ini_X4, tb_of 761 (by exact rfl) rfl, ⟨by decide +kernel, by decide +kernel, by decide +kernel⟩, by decide +kernel⟩
set_option maxRecDepth 20000 in
theorem mi_X4_dead : MI yX4_dead cX4_dead 4 (some .int) 1 := ⟨tb_of 763 (by decide +kernel) rfl, tb_of 764 (by decide +kernel) rfl, ini_X4, tb_of 765 (by exact rfl) rfl, ⟨by decide +kernel, by decide +kernel, by decide +kernel⟩, by decide +kernel⟩
set_option maxRecDepth 20000 in
theorem mi_X4_ghosts : MI yX4_ghosts cX4_ghosts 6 (some .int) 3 := ⟨tb_of 767 (by decide +kernel) rfl, tb_of 768 (by decide +kernel) rfl, ini_X4, tb_of 769 (by exact rfl) rfl, ⟨by decide +kernel, by decide +kernel, by decide +kernel⟩, by decide +kernel⟩
set_option maxRecDepth 20000 in
theorem mi_X4_puts : MI yX4_puts cX4_puts 2 none 0 := ⟨tb_of 772 (by decide +kernel) rfl, tb_of 39 (by decide +kernel) rfl, ini_X4, tb_of 773 (by exact rfl) rfl, ⟨by decide +kernel, by decide +kernel, by decide +kernel⟩, by decide +kernel⟩
set_option maxRecDepth 20000 in
theorem mi_X4_restores : MI yX4_restores cX4_restores 2 none 0 := ⟨tb_of 776 (by decide +kernel) rfl, tb_of 40 (by decide +kernel) rfl, ini_X4, tb_of 777 (by exact rfl) rfl, ⟨by decide +kernel, by decide +kernel, by decide +kernel⟩, by decide +kernel⟩
set_option maxRecDepth 20000 in
theorem mi_X4_bestMeeting : MI yX4_bestMeeting cX4_bestMeeting 7 (some .int) 1 := ⟨tb_of 779 (by decide +kernel) rfl, tb_of 780 (by decide +kernel) rfl, ini_X4, tb_of 781 (by exact rfl) rfl, ⟨by decide +kernel, by decide +kernel, by decide +kernel⟩, by decide +kernel⟩
set_option maxRecDepth 20000 in
theorem mi_X4_rounds : MI yX4_rounds cX4_rounds 3 (some .int) 0 := ⟨tb_of 783 (by decide +kernel) rfl, tb_of 784 (by decide +kernel) rfl, ini_X4, tb_of 785 (by exact rfl) rfl, ⟨by decide +kernel, by decide +kernel, by decide +kernel⟩, by decide +kernel⟩
set_option maxRecDepth 20000 in
theorem mi_X4_areAllSame : MI yX4_areAllSame cX4_areAllSame 5 (some .boolean) 0 := ⟨tb_of 788 (by decide +kernel) rfl, tb_of 41 (by decide +kernel) rfl, ini_X4, tb_of 789 (by exact rfl) rfl, ⟨by decide +kernel, by decide +kernel, by decide +kernel⟩, by decide +kernel⟩
set_option maxRecDepth 20000 in
theorem mi_X4_awakeBehind : MI yX4_awakeBehind cX4_awakeBehind 3 (some .int) 1 := ⟨tb_of 792 (by decide +kernel) rfl, tb_of 42 (by decide +kernel) rfl, ini_X4, tb_of 793 (by exact rfl) rfl, ⟨by decide +kernel, by decide +kernel, by decide +kernel⟩, by decide +kernel⟩
set_option maxRecDepth 20000 in
theorem mi_X4_round : MI yX4_round cX4_round 4 none 0 := ⟨tb_of 796 (by decide +kernel) rfl, tb_of 43 (by decide +kernel) rfl, ini_X4, tb_of 797 (by exact rfl) rfl, ⟨by decide +kernel, by decide +kernel, by decide +kernel⟩, by decide +kernel⟩
set_option maxRecDepth 20000 in
theorem mi_X4_count : MI yX4_count cX4_count 2 (some .int) 1 := ⟨tb_of 799 (by decide +kernel) rfl, tb_of 800 (by decide +kernel) rfl, ini_X4, tb_of 801 (by exact rfl) rfl, ⟨by decide +kernel, by decide +kernel, by decide +kernel⟩, by decide +kernel⟩
set_option maxRecDepth 20000 in
theorem mi_X4_entries : MI yX4_entries cX4_entries 5 (some .int) 1 := ⟨tb_of 804 (by decide +kernel) rfl, tb_of 44 (by decide +kernel) rfl, ini_X4, tb_of 805 (by exact rfl) rfl, ⟨by decide +kernel, by decide +kernel, by decide +kernel⟩, by decide +kernel⟩
set_option maxRecDepth 20000 in
theorem mi_X4_undo : MI yX4_undo cX4_undo 2 (some .int) 0 := ⟨tb_of 807 (by decide +kernel) rfl, tb_of 808 (by decide +kernel) rfl, ini_X4, tb_of 809 (by exact rfl) rfl, ⟨by decide +kernel, by decide +kernel, by decide +kernel⟩, by decide +kernel⟩
set_option maxRecDepth 20000 in
theorem mi_X4_type : MI yX4_type cX4_type 2 (some .int) 1 := ⟨tb_of 811 (by decide +kernel) rfl, tb_of 812 (by decide +kernel) rfl, ini_X4, tb_of 813 (by exact rfl) rfl, ⟨by decide +kernel, by decide +kernel, by decide +kernel⟩, by decide +kernel⟩
set_option maxRecDepth 20000 in
theorem mi_X4_clearText : MI yX4_clearText cX4_clearText 2 (some .int) 0 := ⟨tb_of 815 (by decide +kernel) rfl, tb_of 816 (by decide +kernel) rfl, ini_X4, tb_of 817 (by exact rfl) rfl, ⟨by decide +kernel, by decide +kernel, by decide +kernel⟩, by decide +kernel⟩
set_option maxRecDepth 20000 in
theorem mi_X4_fault : MI yX4_fault cX4_fault 3 (some .int) 1 := ⟨tb_of 819 (by decide +kernel) rfl, tb_of 820 (by decide +kernel) rfl, ini_X4, tb_of 821 (by exact rfl) rfl, ⟨by decide +kernel, by decide +kernel, by decide +kernel⟩, by decide +kernel⟩
set_option maxRecDepth 20000 in
theorem mi_X4_faulty : MI yX4_faulty cX4_faulty 3 (some .int) 0 := ⟨tb_of 824 (by decide +kernel) rfl, tb_of 45 (by decide +kernel) rfl, ini_X4, tb_of 825 (by exact rfl) rfl, ⟨by decide +kernel, by decide +kernel, by decide +kernel⟩, by decide +kernel⟩
set_option maxRecDepth 20000 in
theorem mi_X4_doesNext : MI yX4_doesNext cX4_doesNext 2 (some .int) 0 := ⟨tb_of 828 (by decide +kernel) rfl, tb_of 46 (by decide +kernel) rfl, ini_X4, tb_of 829 (by exact rfl) rfl, ⟨by decide +kernel, by decide +kernel, by decide +kernel⟩, by decide +kernel⟩
set_option maxRecDepth 20000 in
theorem mi_X4_readsForm : MI yX4_readsForm cX4_readsForm 5 (some .boolean) 1 := ⟨tb_of 832 (by decide +kernel) rfl, tb_of 47 (by decide +kernel) rfl, ini_X4, tb_of 833 (by exact rfl) rfl, ⟨by decide +kernel, by decide +kernel, by decide +kernel⟩, by decide +kernel⟩
set_option maxRecDepth 20000 in
theorem mi_X4_number : MI yX4_number cX4_number 3 (some .boolean) 1 := ⟨tb_of 836 (by decide +kernel) rfl, tb_of 48 (by decide +kernel) rfl, ini_X4, tb_of 837 (by exact rfl) rfl, ⟨by decide +kernel, by decide +kernel, by decide +kernel⟩, by decide +kernel⟩
set_option maxRecDepth 20000 in
theorem mi_X4_has : MI yX4_has cX4_has 3 (some .boolean) 1 := ⟨tb_of 840 (by decide +kernel) rfl, tb_of 49 (by decide +kernel) rfl, ini_X4, tb_of 841 (by exact rfl) rfl, ⟨by decide +kernel, by decide +kernel, by decide +kernel⟩, by decide +kernel⟩
set_option maxRecDepth 20000 in
theorem mi_X4_isThere : MI yX4_isThere cX4_isThere 4 (some .boolean) 1 := ⟨tb_of 844 (by decide +kernel) rfl, tb_of 50 (by decide +kernel) rfl, ini_X4, tb_of 845 (by exact rfl) rfl, ⟨by decide +kernel, by decide +kernel, by decide +kernel⟩, by decide +kernel⟩
set_option maxRecDepth 20000 in
theorem mi_X4_does : MI yX4_does cX4_does 2 (some .int) 1 := ⟨tb_of 848 (by decide +kernel) rfl, tb_of 51 (by decide +kernel) rfl, ini_X4, tb_of 849 (by exact rfl) rfl, ⟨by decide +kernel, by decide +kernel, by decide +kernel⟩, by decide +kernel⟩
set_option maxRecDepth 20000 in
theorem mi_X4_play : MI yX4_play cX4_play 2 (some .int) 0 := ⟨tb_of 851 (by decide +kernel) rfl, tb_of 852 (by decide +kernel) rfl, ini_X4, tb_of 853 (by exact rfl) rfl, ⟨by decide +kernel, by decide +kernel, by decide +kernel⟩, by decide +kernel⟩
set_option maxRecDepth 20000 in
theorem inT_X0 : ∀ w ∈ wsX00, w ∈ TB := by
  have h : wsX00.all (fun w => decide (w ∈ lw_tbl) && goodWord w) = true := by decide +kernel
  intro w hw
  have h1 := List.all_eq_true.mp h w hw
  simp only [Bool.and_eq_true, decide_eq_true_eq] at h1
  exact List.mem_filter.mpr h1
set_option maxRecDepth 20000 in
theorem inT_X1 : ∀ w ∈ wsX10, w ∈ TB := by
  have h : wsX10.all (fun w => decide (w ∈ lw_tbl) && goodWord w) = true := by decide +kernel
  intro w hw
  have h1 := List.all_eq_true.mp h w hw
  simp only [Bool.and_eq_true, decide_eq_true_eq] at h1
  exact List.mem_filter.mpr h1
set_option maxRecDepth 20000 in
theorem inT_X2 : ∀ w ∈ wsX20, w ∈ TB := by
  have h : wsX20.all (fun w => decide (w ∈ lw_tbl) && goodWord w) = true := by decide +kernel
  intro w hw
  have h1 := List.all_eq_true.mp h w hw
  simp only [Bool.and_eq_true, decide_eq_true_eq] at h1
  exact List.mem_filter.mpr h1
set_option maxRecDepth 20000 in
theorem inT_X3 : ∀ w ∈ wsX30, w ∈ TB := by
  have h : wsX30.all (fun w => decide (w ∈ lw_tbl) && goodWord w) = true := by decide +kernel
  intro w hw
  have h1 := List.all_eq_true.mp h w hw
  simp only [Bool.and_eq_true, decide_eq_true_eq] at h1
  exact List.mem_filter.mpr h1
set_option maxRecDepth 20000 in
theorem inT_X4 : ∀ w ∈ wsX40, w ∈ TB := by
  have h : wsX40.all (fun w => decide (w ∈ lw_tbl) && goodWord w) = true := by decide +kernel
  intro w hw
  have h1 := List.all_eq_true.mp h w hw
  simp only [Bool.and_eq_true, decide_eq_true_eq] at h1
  exact List.mem_filter.mpr h1
end
section
/-! THE WORLD as numbers: objects 0..6 villages (0 now, 1 trial, 2..6 the history's), 7 orders, 8 history, 9 the reference, 10 the class's own object; part 0 of an object: its int fields by their slots, part k its k-th array -/
abbrev WD : Type := (Nat → Nat → Nat → Nat) × (Nat → Nat)
def upN (f : Nat → Nat) (k x : Nat) : Nat → Nat := fun j => if j = k then x else f j
theorem upN_I (f : Nat → Nat) (k x : Nat) : upd (fun j => nI (f j)) k (nI x) = fun j => nI (upN f k x j) := by
  funext j
  by_cases h : j = k
  · simp [upd, upN, h]
  · simp [upd, upN, h]
theorem upN_s (f : Nat → Nat) (k x : Nat) : upN f k x k = x := by simp [upN]
theorem upN_n (f : Nat → Nat) {k j : Nat} (x : Nat) (h : j ≠ k) : upN f k x j = f j := by simp [upN, h]
abbrev Geo : Type := va_G × (Nat → Nat → Nat) × (ClassId × ClassId × ClassId)
def g_ad (g : Geo) : Nat → Nat → Nat := g.2.1
def g_ty (g : Geo) : List (ClassId × FieldType) := [(g.2.2.1, .int), (g.2.2.2.1, .char), (g.2.2.2.2, .object RX2)]
def lnV (k : Nat) : Nat := if k < 5 then 7 else if k < 11 then 84 else 12
def lnM (k : Nat) : Nat := if k = 2 then 3252 else if k = 5 then 60 else if k = 6 then 3 else 813
def g_ci (o : Nat) : Nat := if o < 7 then 2 else if o = 7 then 1 else if o = 8 then 0 else if o = 9 then 4 else 3
def fsV (g : Geo) (w : WD) (o : Nat) : List Value := [.int (nI (w.1 o 0 0)), .int (nI (w.1 o 0 1)), .int (nI (w.1 o 0 2)), .int (nI (w.1 o 0 3)), .ref (g_ad g o 1), .ref (g_ad g o 2), .ref (g_ad g o 3), .ref (g_ad g o 4), .ref (g_ad g o 5), .ref (g_ad g o 6), .ref (g_ad g o 7), .ref (g_ad g o 8), .ref (g_ad g o 9), .ref (g_ad g o 10), .ref (g_ad g o 11)]
def fsO (g : Geo) (w : WD) : List Value := [.ref (g_ad g 7 1), .int (nI (w.1 7 0 1)), .ref (g_ad g 7 2), .int (nI (w.1 7 0 3)), .int (nI (w.1 7 0 4)), .int (nI (w.1 7 0 5))]
def fsH (g : Geo) (w : WD) : List Value := [.ref (g_ad g 8 1), .int (nI (w.1 8 0 1))]
def fsM (g : Geo) (w : WD) : List Value := [.ref (g_ad g 9 1), .ref (g_ad g 9 2), .ref (g_ad g 9 3), .ref (g_ad g 9 4), .int (nI (w.1 9 0 4)), .ref (g_ad g 9 5), .int (nI (w.1 9 0 6)), .int (nI (w.1 9 0 7)), .int (nI (w.1 9 0 8)), .ref (g_ad g 9 6)]
def fsR (g : Geo) : List Value := [.ref (g_ad g 0 0), .ref (g_ad g 1 0), .ref (g_ad g 8 0), .ref (g_ad g 7 0)]
def g_fs (g : Geo) (w : WD) (o : Nat) : List Value := if o < 7 then fsV g w o else if o = 7 then fsO g w else if o = 8 then fsH g w else if o = 9 then fsM g w else fsR g
def g_ch (o k : Nat) : Bool := (decide (o = 7) && decide (k = 1)) || (decide (o = 9) && decide (k = 5))
def g_ln (o k : Nat) : Nat := if o < 7 then lnV k else if o = 7 then (if k = 1 then 60 else 3) else lnM k
def g_cell (g : Geo) (w : WD) (o k : Nat) : va_E := if k = 0 then .inr (g_ci o, g_fs g w o) else if o = 8 then .inl (g.2.2.2.2, 5, .inr (.inr (.inr (.inr (fun i => some (g_ad g (w.2 i) 0)))))) else .inl ((if g_ch o k = true then g.2.2.2.1 else g.2.2.1), g_ln o k, .inl (fun j => nI (w.1 o k j)))
def g_dm : List (Nat × Nat) := (List.range 7).flatMap (fun o => (List.range 12).map (fun k => (o, k))) ++ [(7,0),(7,1),(7,2),(8,0),(8,1),(9,0),(9,1),(9,2),(9,3),(9,4),(9,5),(9,6),(10,0)]
theorem dmV {o k : Nat} (ho : o < 7) (hk : k < 12) : (o, k) ∈ g_dm := List.mem_append_left _ (List.mem_flatMap.mpr ⟨o, List.mem_range.mpr ho, List.mem_map.mpr ⟨k, List.mem_range.mpr hk, rfl⟩⟩)
theorem dm_inj {i j : Nat} {q : Nat × Nat} (h1 : g_dm[i]? = some q) (h2 : g_dm[j]? = some q) : i = j :=
  va_nd_inj (g_dm.map (fun q => 100 * q.1 + q.2)) (by decide +kernel) i j (100 * q.1 + q.2) (by rw [List.getElem?_map, h1]; rfl) (by rw [List.getElem?_map, h2]; rfl)
def g_wl (g : Geo) (w : WD) : va_W := g_dm.map (fun q => (g_ad g q.1 q.2, g_cell g w q.1 q.2))
theorem wl_at (g : Geo) {q : Nat × Nat} (h : q ∈ g_dm) : ∃ i : Nat, g_dm[i]? = some q ∧ ∀ w : WD, (g_wl g w)[i]? = some (g_ad g q.1 q.2, g_cell g w q.1 q.2) := by
  obtain ⟨i, hi⟩ := List.getElem?_of_mem h
  exact ⟨i, hi, fun w => by simp [g_wl, List.getElem?_map, hi]⟩
theorem wl_set {g : Geo} {w w' : WD} {q : Nat × Nat} {i : Nat} (hi : g_dm[i]? = some q) (hne : ∀ o k, (o, k) ∈ g_dm → (o, k) ≠ q → g_cell g w' o k = g_cell g w o k) {e : va_E} (he : g_cell g w' q.1 q.2 = e) : (g_wl g w).set i (g_ad g q.1 q.2, e) = g_wl g w' := by
  subst he
  apply List.ext_getElem?
  intro j
  have hlt : i < g_dm.length := (List.getElem?_eq_some_iff.mp hi).1
  by_cases hj : i = j
  · subst hj
    rw [List.getElem?_set_self (by simpa [g_wl] using hlt)]
    simp [g_wl, List.getElem?_map, hi]
  · rw [List.getElem?_set_ne hj]
    simp only [g_wl, List.getElem?_map]
    cases hq : g_dm[j]? with
    | none => rfl
    | some q' =>
      have hne' : q' ≠ q := by
        intro h
        subst h
        exact hj (dm_inj hi hq)
      simp only [Option.map_some]
      rw [hne q'.1 q'.2 (List.mem_of_getElem? hq) hne']
/-- a new content of a part of an object -/
def wA (w : WD) (o k : Nat) (f : Nat → Nat) : WD := (fun a b => if a = o ∧ b = k then f else w.1 a b, w.2)
def wH (w : WD) (i v : Nat) : WD := (w.1, fun j => if j = i then v else w.2 j)
theorem wA_s (w : WD) (o k : Nat) (f : Nat → Nat) : (wA w o k f).1 o k = f := by simp [wA]
theorem wA_n (w : WD) {o k o' k' : Nat} (f : Nat → Nat) (h : ¬ (o' = o ∧ k' = k)) : (wA w o k f).1 o' k' = w.1 o' k' := by simp only [wA]; rw [if_neg h]
theorem wA_2 (w : WD) (o k : Nat) (f : Nat → Nat) : (wA w o k f).2 = w.2 := rfl
theorem wA_id (w : WD) (o k : Nat) : wA w o k (w.1 o k) = w := by
  refine Prod.ext (funext fun a => funext fun b => ?_) rfl
  by_cases h : a = o ∧ b = k
  · obtain ⟨rfl, rfl⟩ := h; simp [wA]
  · simp only [wA]; rw [if_neg h]
theorem wA_wA (w : WD) (o k : Nat) (f f' : Nat → Nat) : wA (wA w o k f) o k f' = wA w o k f' := by
  refine Prod.ext (funext fun a => funext fun b => ?_) rfl
  simp only [wA]
  by_cases h : a = o ∧ b = k
  · rw [if_pos h, if_pos h]
  · rw [if_neg h, if_neg h, if_neg h]
theorem cell_wA {g : Geo} {w : WD} {o k o' k' : Nat} {f : Nat → Nat} (h : (o', k') ≠ (o, k)) : g_cell g (wA w o k f) o' k' = g_cell g w o' k' := by
  have hn : ¬ (o' = o ∧ k' = k) := fun z => h (by rw [z.1, z.2])
  unfold g_cell
  by_cases hk : k' = 0
  · subst hk
    rw [if_pos rfl, if_pos rfl]
    have e : ∀ a, a = o' → (wA w o k f).1 a 0 = w.1 a 0 := fun a ha => wA_n w f (by rw [ha]; exact hn)
    unfold g_fs
    by_cases h1 : o' < 7
    · simp only [if_pos h1, fsV, e o' rfl]
    · by_cases h2 : o' = 7
      · subst h2; simp [fsO, e 7 rfl]
      · by_cases h3 : o' = 8
        · subst h3; simp [fsH, e 8 rfl]
        · by_cases h4 : o' = 9
          · subst h4; simp [fsM, e 9 rfl]
          · simp only [if_neg h1, if_neg h2, if_neg h3, if_neg h4]
  · rw [if_neg hk, if_neg hk, wA_n w f hn]
    rfl
theorem cell_wH {g : Geo} {w : WD} {i v o' k' : Nat} (h : (o', k') ≠ (8, 1)) (hk2 : k' < 2 ∨ o' ≠ 8) : g_cell g (wH w i v) o' k' = g_cell g w o' k' := by
  unfold g_cell
  by_cases hk : k' = 0
  · subst hk; rfl
  · rw [if_neg hk, if_neg hk]
    by_cases h8 : o' = 8
    · exact absurd (show (o', k') = (8, 1) by rw [h8, show k' = 1 by omega]) h
    · rw [if_neg h8, if_neg h8]; rfl
/-- locals by their slots -/
def lg : List (Option Value) → Nat → Option Value
  | [], _ => none
  | a :: _, 0 => a
  | _ :: l, n + 1 => lg l n
def lst : List (Option Value) → Nat → Value → List (Option Value)
  | [], _, _ => []
  | _ :: l, 0, v => some v :: l
  | a :: l, n + 1, v => a :: lst l n v
theorem lg_lst : ∀ (l : List (Option Value)) (i j : Nat) (v u : Value), lg (lst l i v) j = some u → (j = i ∧ u = v) ∨ (j ≠ i ∧ lg l j = some u)
  | [], _, _, _, _, h => by simp [lst, lg] at h
  | _ :: l, 0, 0, v, u, h => Or.inl ⟨rfl, by simpa [lst, lg] using h.symm⟩
  | _ :: l, 0, j + 1, v, u, h => Or.inr ⟨by omega, by simpa [lst, lg] using h⟩
  | _ :: l, i + 1, 0, v, u, h => Or.inr ⟨by omega, by simpa [lst, lg] using h⟩
  | _ :: l, i + 1, j + 1, v, u, h => by
    rcases lg_lst l i j v u (by simpa [lst, lg] using h) with ⟨a, b⟩ | ⟨a, b⟩
    · exact Or.inl ⟨by omega, b⟩
    · exact Or.inr ⟨by omega, by simpa [lg] using b⟩
def lvh (ls : Array Slot) (nL : Nat) (lv : List (Option Value)) : Prop := ls.size = nL ∧ lv_wf ls ∧ ∀ i v, lg lv i = some v → ls[i]? = some (.val v) ∧ v.category = 1
def lvl (nL : Nat) (lv : List (Option Value)) : List (Nat × Value) := (List.range nL).filterMap (fun i => (lg lv i).map (fun v => (i, v)))
theorem lvl_mem {nL : Nat} {lv : List (Option Value)} {i : Nat} {v : Value} (hi : i < nL) (h : lg lv i = some v) : (i, v) ∈ lvl nL lv := List.mem_filterMap.mpr ⟨i, List.mem_range.mpr hi, by rw [h]; rfl⟩
theorem lvh.has {ls : Array Slot} {nL : Nat} {lv : List (Option Value)} (h : lvh ls nL lv) : lv_has ls nL (lvl nL lv) := by
  refine ⟨h.1, h.2.1, fun q hq => ?_⟩
  obtain ⟨i, -, hi⟩ := List.mem_filterMap.mp hq
  cases hg : lg lv i with
  | none => rw [hg] at hi; cases hi
  | some v =>
    rw [hg] at hi
    cases hi
    exact (h.2.2 i v hg).1
theorem lvh.put {ls ls' : Array Slot} {nL i : Nat} {lv : List (Option Value)} {v : Value} (h : lvh ls nL lv) (hc : v.category = 1) (h' : lv_has ls' nL ((i, v) :: (lvl nL lv).filter (fun q => !(q.1 == i) && !(q.1 + 1 == i && q.2.category == 2)))) : lvh ls' nL (lst lv i v) := by
  refine ⟨h'.1, h'.2.1, fun j u hj => ?_⟩
  rcases lg_lst lv i j v u hj with ⟨rfl, rfl⟩ | ⟨hne, hg⟩
  · exact ⟨h'.2.2 _ List.mem_cons_self, hc⟩
  · obtain ⟨g1, g2⟩ := h.2.2 j u hg
    have hjn : j < nL := by rw [← h.1]; exact lv_lt g1
    refine ⟨h'.2.2 (j, u) (List.mem_cons_of_mem _ (List.mem_filter.mpr ⟨lvl_mem hjn hg, ?_⟩)), g2⟩
    have e1 : (j == i) = false := by simpa using hne
    have e2 : (u.category == 2) = false := by rw [g2]; rfl
    simp only [e1, e2, Bool.and_false, Bool.not_false, Bool.and_self]
/-- the nest words stay -/
theorem nl_warm {s U : State} (hW : s.WarmedH U.vm) (h : ∀ x ∈ NL, va_Nw x s) : ∀ x ∈ NL, va_Nw x U := by
  intro x hx
  have h1 := h x hx
  have h2 := (List.mem_filter.mp hx).2
  cases x <;> first | exact va_Nw.warmF hW h1 | exact va_Nw.warmM hW h1 | (simp [NWq] at h2)
theorem nl_same {s U : State} (hv : s.vm = U.vm) (h : ∀ x ∈ NL, va_Nw x s) : ∀ x ∈ NL, va_Nw x U := by
  intro x hx
  have h1 := h x hx
  have h2 := (List.mem_filter.mp hx).2
  cases x <;> first | exact va_Nw.same rfl hv h1 | (simp [NWq] at h2)
def Ag (g : Geo) : Nat → Prop := fun q => ∃ z ∈ g_dm, q = g_ad g z.1 z.2
def Ginj (g : Geo) : Prop := ∀ z ∈ g_dm, ∀ z' ∈ g_dm, g_ad g z.1 z.2 = g_ad g z'.1 z'.2 → z = z'
theorem g_D {g : Geo} {A : Nat → Prop} (hi : Ginj g) (hA : ∀ q, Ag g q → A q) (w : WD) : va_D A (g_wl g w) := by
  refine ⟨fun i j p q hp hq he => ?_, fun k q hk => ?_⟩
  · simp only [g_wl, List.getElem?_map] at hp hq
    cases h1 : g_dm[i]? with
    | none => rw [h1] at hp; cases hp
    | some z =>
      cases h2 : g_dm[j]? with
      | none => rw [h2] at hq; cases hq
      | some z' =>
        rw [h1] at hp; rw [h2] at hq
        cases hp; cases hq
        have e := hi z (List.mem_of_getElem? h1) z' (List.mem_of_getElem? h2) he
        subst e
        exact dm_inj h1 h2
  · simp only [g_wl, List.getElem?_map] at hk
    cases h1 : g_dm[k]? with
    | none => rw [h1] at hk; cases hk
    | some z =>
      rw [h1] at hk
      cases hk
      exact hA _ ⟨z, List.mem_of_getElem? h1, rfl⟩
/-- a point of a method's run: the world, the place, the locals, the stack -/
abbrev PT : Type := WD → Nat → List (Option Value) → List Value → Prop
def Gd (l : Launch) (g : Geo) (own : String) (cc : ByteArray) (rm : Room) (nL : Nat) (ret : Option FieldType) (fin : Option Value → WD → Prop) (X : Nat → Nat → (Nat → Int32) → Prop) (P : PT) : Prop :=
  ∃ (p : Program) (e : Env) (s : State) (m : MethodId) (args : Array Value) (below : List Frame) (meth : Method) (c : Code) (cells slots : Nat) (Q : State → Prop) (A : Nat → Prop),
    P = (fun w pc lv st => ∀ (H : Heap) (locs : List Loc) (ls : Array Slot), va_P g.1 vwCl (g_wl g w) H → va_S A s.heap H locs → lvh ls nL lv → W p l e rm s m args below meth c H locs cells slots Q (F0 m pc ls st)) ∧
    p.tables.exec = Jvm.exec ∧ c.code = cc ∧ c.maxLocals = nL ∧ s.vm.findClass own = some m.cls ∧ (∀ w ∈ TB, w.before args s = true) ∧ (∀ x ∈ NL, va_Nw x s) ∧ va_K g.1 vwCl (g_ty g) s ∧ (Ginj g ∧ ∀ q, Ag g q → A q) ∧ (cells ≤ rm.cells ∧ slots ≤ rm.slots) ∧
    (∀ b L xs, X b L xs → b < s.heap.size ∧ ¬ A b ∧ va_X b L xs s s.heap) ∧
    (∀ w pc lv v, decode cc pc = .ok (.ireturn, 1) → (∃ ty, ret = some ty ∧ narrow ty (.int v) = .int v) → fin (some (.int v)) w → P w pc lv [.int v]) ∧
    (∀ w pc lv, decode cc pc = .ok (.return_, 1) → ret = none → fin none w → P w pc lv [])
/-- a method's contract over the whole world: what it answers, what the world is then -/
def Ct (l : Launch) (g : Geo) (y : MethodName) (bytes : ByteArray) (maxL : Nat) (ret : Option FieldType) (rm : Room) (av : List Value) (w : WD) (T : Option Value → WD → Prop) : Prop :=
  Met l y (.code y bytes maxL ret :: TB) rm (va_Pc av (fun U => va_P g.1 vwCl (g_wl g w) U.heap ∧ va_K g.1 vwCl (g_ty g) U ∧ (∀ x ∈ NL, va_Nw x U) ∧ Ginj g)) (fun _ st o t => ∃ (r : Option Value) (w' : WD), o = .returned r ∧ T r w' ∧ va_P g.1 vwCl (g_wl g w') t.heap ∧ va_F (Ag g) st t) 0 0 (Ag g)
def lvOf (nL : Nat) (av : List Value) : List (Option Value) := av.map some ++ List.replicate (nL - av.length) none
theorem lg_of : ∀ (n : Nat) (av : List Value) (i : Nat) (v : Value) (b : Nat), (∀ v ∈ av, v.category = 1) → lg (av.map some ++ List.replicate n none) i = some v → (b + i, v) ∈ lv_args b av ∧ v.category = 1
  | n, [], i, v, b, _, h => by
    exfalso
    have : ∀ (n i : Nat), lg (List.replicate n none) i = none := by
      intro n
      induction n with
      | zero => intro i; rfl
      | succ n ih => intro i; cases i with
        | zero => rfl
        | succ i => exact ih i
    rw [List.map_nil, List.nil_append, this] at h
    cases h
  | n, a :: av, 0, v, b, hc, h => by
    have e : a = v := by simpa [lg] using h
    subst e
    exact ⟨List.mem_cons_self, hc a List.mem_cons_self⟩
  | n, a :: av, i + 1, v, b, hc, h => by
    have h1 := lg_of n av i v (b + 1) (fun u hu => hc u (List.mem_cons_of_mem _ hu)) (by simpa [lg] using h)
    have h2 : ¬ a.category = 2 := by rw [hc a List.mem_cons_self]; decide
    refine ⟨?_, h1.2⟩
    show (b + (i + 1), v) ∈ (b, a) :: lv_args (if a.category = 2 then b + 2 else b + 1) av
    rw [if_neg h2, show b + (i + 1) = b + 1 + i by omega]
    exact List.mem_cons_of_mem _ h1.1
theorem lg_slen (av : List Value) (hc : ∀ v ∈ av, v.category = 1) : (lg_sl av).length = av.length := by
  induction av with
  | nil => rfl
  | cons a av ih =>
    have h2 : ¬ a.category = 2 := by rw [hc a List.mem_cons_self]; decide
    have := ih (fun u hu => hc u (List.mem_cons_of_mem _ hu))
    simp only [lg_sl] at this
    simp [lg_sl, h2, this]
theorem ct_of {l : Launch} {g : Geo} {y : MethodName} {bytes : ByteArray} {maxL : Nat} {ret : Option FieldType} {rm : Room} {av : List Value} {w : WD} {T : Option Value → WD → Prop} (hy : plainName y.cls = true) (hrc : rm.cells = 0 ∧ rm.slots = 0) (hcat : ∀ v ∈ av, v.category = 1) (hlen : av.length ≤ maxL)
    (body : ∀ P : PT, Gd l g y.cls bytes rm maxL ret T (fun _ _ _ => False) P → P w 0 (lvOf maxL av) []) : Ct l g y bytes maxL ret rm av w T := by
  refine Met.ofW (cc := bytes) (maxL := maxL) (ret := ret) hy rfl ?_
  intro p e s m args below meth c s₁ B hml hv
  obtain ⟨rfl, hP, hK, hN, hG⟩ := hv
  have hx := B.exec
  have hb := B.bytes
  have hr := B.returns
  have hts := atoms_spec (ws := Cond.code y bytes maxL ret :: TB) B.pre
  have hown : s.vm.findClass y.cls = some m.cls := findClass_of_methodNamed B.named
  have hlocks := B.notSynchronized
  have hl := lv_entry av (n := maxL) (by rw [lg_slen av hcat]; exact hlen)
  rw [lg_entry_eq]
  generalize (lg_sl av ++ List.replicate (maxL - (lg_sl av).length) Slot.unset).toArray = ls at hl ⊢
  have hlv : lvh ls maxL (lvOf maxL av) := ⟨hl.1, hl.2.1, fun i v h => by
    have h1 := lg_of _ av i v 0 hcat h
    rw [Nat.zero_add] at h1
    exact ⟨hl.2.2 _ h1.1, h1.2⟩⟩
  refine body _ ⟨p, e, s, m, av.toArray, below, meth, c, 0, 0, MQ below (fun _ st o t => ∃ (r : Option Value) (w' : WD), o = .returned r ∧ T r w' ∧ va_P g.1 vwCl (g_wl g w') t.heap ∧ va_F (Ag g) st t) av.toArray s 0 0 (Ag g), Ag g, rfl, hx, hb, hml, hown, fun w hw => hts w (List.mem_cons_of_mem _ hw), hN, hK, ⟨hG, fun _ h => h⟩, ⟨Nat.zero_le _, Nat.zero_le _⟩, fun _ _ _ h => h.elim, ?_, ?_⟩ s.heap [] ls hP va_S.rf hlv
  · intro w2 pc lv v hd hty hfin H locs ls hP hS hl
    obtain ⟨ty, hty, hn⟩ := hty
    exact W.zret hx hb (hr.trans hty) hn (fun t ht _ => ⟨_, w2, rfl, hfin, by rw [ht]; exact hP, hS.F ht⟩) hS.2.2 hd
  · intro w2 pc lv hd hty hfin H locs ls hP hS hl
    exact W.vret hx hb (hr.trans hty) (fun t ht _ => ⟨_, w2, rfl, hfin, by rw [ht]; exact hP, hS.F ht⟩) hS.2.2 hd
end
section
theorem ofI (k : Nat) (h : k < 2 ^ 31) : Int32.ofInt (k : Int) = nI k := by
  apply Int32.toInt_inj.mp
  rw [nI_toInt h, Int32.toInt_ofInt_of_le (by omega) (by omega)]
theorem lvh.gi {ls : Array Slot} {nL i : Nat} {lv : List (Option Value)} {v : Value} (h : lvh ls nL lv) (hl : lg lv i = some v) : ls[i]? = some (.val v) := (h.2.2 i v hl).1
def bI (b : Bool) : Int32 := if b = true then nI 1 else nI 0
theorem bI_t : bI true = nI 1 := rfl
theorem bI_f : bI false = nI 0 := rfl
theorem bI_nar (b : Bool) : narrow .boolean (.int (bI b)) = .int (bI b) := by cases b <;> rfl
theorem bI_eq0 (b : Bool) : bI b = 0 ↔ b = false := by cases b <;> decide
def weq (w w' : WD) : Prop := (∀ o k j, (o, k) ∈ g_dm → j < (if k = 0 then 10 else g_ln o k) → w.1 o k j = w'.1 o k j) ∧ ∀ i, i < 5 → w.2 i = w'.2 i
theorem arrV_congr {cA : ClassId} {n : Nat} {f f' : Nat → Value} (h : ∀ j, j < n → f j = f' j) : arrV cA n f = arrV cA n f' := by
  have e : (Array.ofFn (n := n) fun j => f j.val) = Array.ofFn (n := n) fun j => f' j.val := by
    apply congrArg
    funext j
    exact h j.val j.isLt
  simp only [arrV, e]
theorem weq_fs {g : Geo} {w w' : WD} {o : Nat} (h : weq w w') (hz : (o, 0) ∈ g_dm) : g_fs g w o = g_fs g w' o := by
  have e : ∀ j, j < 10 → w.1 o 0 j = w'.1 o 0 j := fun j hj => h.1 o 0 j hz (by rw [if_pos rfl]; exact hj)
  unfold g_fs
  by_cases h1 : o < 7
  · simp only [if_pos h1, fsV, e 0 (by omega), e 1 (by omega), e 2 (by omega), e 3 (by omega)]
  · by_cases h2 : o = 7
    · subst h2; simp [fsO, e 1 (by omega), e 3 (by omega), e 4 (by omega), e 5 (by omega)]
    · by_cases h3 : o = 8
      · subst h3; simp [fsH, e 1 (by omega)]
      · by_cases h4 : o = 9
        · subst h4; simp [fsM, e 4 (by omega), e 6 (by omega), e 7 (by omega), e 8 (by omega)]
        · simp only [if_neg h1, if_neg h2, if_neg h3, if_neg h4]
theorem weq_P {g : Geo} {w w' : WD} {H : Heap} (h : weq w w') (hP : va_P g.1 vwCl (g_wl g w) H) : va_P g.1 vwCl (g_wl g w') H := by
  intro i q hq
  simp only [g_wl, List.getElem?_map] at hq
  cases hz : g_dm[i]? with
  | none => rw [hz] at hq; cases hq
  | some z =>
    rw [hz] at hq
    cases hq
    have h1 := hP i (g_ad g z.1 z.2, g_cell g w z.1 z.2) (by simp [g_wl, List.getElem?_map, hz])
    obtain ⟨o, k⟩ := z
    have hm : (o, k) ∈ g_dm := List.mem_of_getElem? hz
    dsimp only at h1 ⊢
    unfold g_cell at h1 ⊢
    by_cases hk : k = 0
    · subst hk
      rw [if_pos rfl] at h1 ⊢
      rw [← weq_fs h hm]
      exact h1
    · rw [if_neg hk] at h1 ⊢
      by_cases h8 : o = 8
      · rw [if_pos h8] at h1 ⊢
        have e : arrV g.2.2.2.2 5 (fun j => va_rf (some (g_ad g (w.2 j) 0))) = arrV g.2.2.2.2 5 (fun j => va_rf (some (g_ad g (w'.2 j) 0))) := arrV_congr (fun j hj => by rw [h.2 j hj])
        show H[_]? = some (vp_cell _ _)
        have h2 : H[_]? = some (vp_cell _ _) := h1
        rw [vp_cell_q] at h2 ⊢
        rw [← e]; exact h2
      · rw [if_neg h8] at h1 ⊢
        have e : ∀ cA, arrV cA (g_ln o k) (fun j => Value.int (nI (w.1 o k j))) = arrV cA (g_ln o k) (fun j => Value.int (nI (w'.1 o k j))) := fun cA => arrV_congr (fun j hj => by rw [h.1 o k j hm (by rw [if_neg hk]; exact hj)])
        show H[_]? = some (vp_cell _ _)
        have h2 : H[_]? = some (vp_cell _ _) := h1
        rw [vp_cell_i] at h2 ⊢
        rw [← e]; exact h2
theorem pw_weq {l : Launch} {g : Geo} {own : String} {cc : ByteArray} {rm : Room} {nL : Nat} {ret : Option FieldType} {fin : Option Value → WD → Prop} {X : Nat → Nat → (Nat → Int32) → Prop} {P : PT} (hX : Gd l g own cc rm nL ret fin X P) {w : WD} {pc : Nat} {lv : List (Option Value)} {st : List Value} {w' : WD} (h : weq w w') (kk : P w' pc lv st) : P w pc lv st := by
  obtain ⟨p, e, s, m, args, below, meth, c, cells, slots, Q, A, rfl, hx, hb, hml, hown, hTB, hNL, hK, hG, hcs, hScr, hri, hrv⟩ := hX
  intro H locs ls hP hS hl
  exact kk H locs ls (weq_P h hP) hS hl
theorem pw_eq {P : PT} {w w' : WD} {pc : Nat} {lv lv' : List (Option Value)} {st st' : List Value} (hw : w = w') (hl : lv = lv') (hs : st = st') (kk : P w' pc lv' st') : P w pc lv st := by rw [hw, hl, hs]; exact kk
theorem pw_iconst {l : Launch} {g : Geo} {own : String} {cc : ByteArray} {rm : Room} {nL : Nat} {ret : Option FieldType} {fin : Option Value → WD → Prop} {X : Nat → Nat → (Nat → Int32) → Prop} {P : PT} (hX : Gd l g own cc rm nL ret fin X P) {w : WD} {pc q : Nat} {lv : List (Option Value)} {st : List Value} {n : Int} {k : Nat} (hn : n = (k : Int)) (hk : k < 2 ^ 31) (hd : decode cc pc = .ok (.iconst n, 1)) (hq : pc + 1 = q) (kk : P w q lv (.int (nI k) :: st)) : P w pc lv (st) := by
  obtain ⟨p, e, s, m, args, below, meth, c, cells, slots, Q, A, rfl, hx, hb, hml, hown, hTB, hNL, hK, hG, hcs, hScr, hri, hrv⟩ := hX
  subst hq
  intro H locs ls hP hS hl
  exact lv_iconst hx hb hd (by rw [hn]; exact ofI k hk) (kk H locs ls hP hS hl)
theorem pw_iconstm {l : Launch} {g : Geo} {own : String} {cc : ByteArray} {rm : Room} {nL : Nat} {ret : Option FieldType} {fin : Option Value → WD → Prop} {X : Nat → Nat → (Nat → Int32) → Prop} {P : PT} (hX : Gd l g own cc rm nL ret fin X P) {w : WD} {pc q : Nat} {lv : List (Option Value)} {st : List Value}  (hd : decode cc pc = .ok (.iconst (-1), 1)) (hq : pc + 1 = q) (kk : P w q lv (.int (-1) :: st)) : P w pc lv (st) := by
  obtain ⟨p, e, s, m, args, below, meth, c, cells, slots, Q, A, rfl, hx, hb, hml, hown, hTB, hNL, hK, hG, hcs, hScr, hri, hrv⟩ := hX
  subst hq
  intro H locs ls hP hS hl
  exact lv_iconst hx hb hd (by decide) (kk H locs ls hP hS hl)
theorem pw_bipush {l : Launch} {g : Geo} {own : String} {cc : ByteArray} {rm : Room} {nL : Nat} {ret : Option FieldType} {fin : Option Value → WD → Prop} {X : Nat → Nat → (Nat → Int32) → Prop} {P : PT} (hX : Gd l g own cc rm nL ret fin X P) {w : WD} {pc q : Nat} {lv : List (Option Value)} {st : List Value} {n : Int} {k : Nat} (hn : (Int8.ofInt n).toInt32 = nI k) (hd : decode cc pc = .ok (.bipush n, 2)) (hq : pc + 2 = q) (kk : P w q lv (.int (nI k) :: st)) : P w pc lv (st) := by
  obtain ⟨p, e, s, m, args, below, meth, c, cells, slots, Q, A, rfl, hx, hb, hml, hown, hTB, hNL, hK, hG, hcs, hScr, hri, hrv⟩ := hX
  subst hq
  intro H locs ls hP hS hl
  exact lv_bipush hx hb hd hn (kk H locs ls hP hS hl)
theorem pw_sipush {l : Launch} {g : Geo} {own : String} {cc : ByteArray} {rm : Room} {nL : Nat} {ret : Option FieldType} {fin : Option Value → WD → Prop} {X : Nat → Nat → (Nat → Int32) → Prop} {P : PT} (hX : Gd l g own cc rm nL ret fin X P) {w : WD} {pc q : Nat} {lv : List (Option Value)} {st : List Value} {n : Int} {k : Nat} (hn : (Int16.ofInt n).toInt32 = nI k) (hd : decode cc pc = .ok (.sipush n, 3)) (hq : pc + 3 = q) (kk : P w q lv (.int (nI k) :: st)) : P w pc lv (st) := by
  obtain ⟨p, e, s, m, args, below, meth, c, cells, slots, Q, A, rfl, hx, hb, hml, hown, hTB, hNL, hK, hG, hcs, hScr, hri, hrv⟩ := hX
  subst hq
  intro H locs ls hP hS hl
  exact lv_sipush hx hb hd hn (kk H locs ls hP hS hl)
theorem pw_ldc {l : Launch} {g : Geo} {own : String} {cc : ByteArray} {rm : Room} {nL : Nat} {ret : Option FieldType} {fin : Option Value → WD → Prop} {X : Nat → Nat → (Nat → Int32) → Prop} {P : PT} (hX : Gd l g own cc rm nL ret fin X P) {w : WD} {pc q : Nat} {lv : List (Option Value)} {st : List Value} {i : Nat} {v : Int32} (hc : Cond.constant own i v ∈ TB) (hd : decode cc pc = .ok (.ldc i, 2)) (hq : pc + 2 = q) (kk : P w q lv (.int v :: st)) : P w pc lv (st) := by
  obtain ⟨p, e, s, m, args, below, meth, c, cells, slots, Q, A, rfl, hx, hb, hml, hown, hTB, hNL, hK, hG, hcs, hScr, hri, hrv⟩ := hX
  subst hq
  intro H locs ls hP hS hl
  exact lv_ldc hx hb hown (hTB _ hc) hd (kk H locs ls hP hS hl)
theorem pw_ldcw {l : Launch} {g : Geo} {own : String} {cc : ByteArray} {rm : Room} {nL : Nat} {ret : Option FieldType} {fin : Option Value → WD → Prop} {X : Nat → Nat → (Nat → Int32) → Prop} {P : PT} (hX : Gd l g own cc rm nL ret fin X P) {w : WD} {pc q : Nat} {lv : List (Option Value)} {st : List Value} {i : Nat} {v : Int32} (hc : Cond.constant own i v ∈ TB) (hd : decode cc pc = .ok (.ldc_w i, 3)) (hq : pc + 3 = q) (kk : P w q lv (.int v :: st)) : P w pc lv (st) := by
  obtain ⟨p, e, s, m, args, below, meth, c, cells, slots, Q, A, rfl, hx, hb, hml, hown, hTB, hNL, hK, hG, hcs, hScr, hri, hrv⟩ := hX
  subst hq
  intro H locs ls hP hS hl
  exact lv_ldcw hx hb hown (hTB _ hc) hd (kk H locs ls hP hS hl)
theorem pw_iload_n {l : Launch} {g : Geo} {own : String} {cc : ByteArray} {rm : Room} {nL : Nat} {ret : Option FieldType} {fin : Option Value → WD → Prop} {X : Nat → Nat → (Nat → Int32) → Prop} {P : PT} (hX : Gd l g own cc rm nL ret fin X P) {w : WD} {pc q : Nat} {lv : List (Option Value)} {st : List Value} {k : Fin 4} {x : Int32} (hg : lg lv k = some (.int x)) (hd : decode cc pc = .ok (.iload_n k, 1)) (hq : pc + 1 = q) (kk : P w q lv (.int x :: st)) : P w pc lv (st) := by
  obtain ⟨p, e, s, m, args, below, meth, c, cells, slots, Q, A, rfl, hx, hb, hml, hown, hTB, hNL, hK, hG, hcs, hScr, hri, hrv⟩ := hX
  subst hq
  intro H locs ls hP hS hl
  exact lv_iload_n hx hb hd rfl (hl.gi hg) (kk H locs ls hP hS hl)
theorem pw_iload {l : Launch} {g : Geo} {own : String} {cc : ByteArray} {rm : Room} {nL : Nat} {ret : Option FieldType} {fin : Option Value → WD → Prop} {X : Nat → Nat → (Nat → Int32) → Prop} {P : PT} (hX : Gd l g own cc rm nL ret fin X P) {w : WD} {pc q : Nat} {lv : List (Option Value)} {st : List Value} {i : Nat} {x : Int32} (hg : lg lv i = some (.int x)) (hd : decode cc pc = .ok (.iload i, 2)) (hq : pc + 2 = q) (kk : P w q lv (.int x :: st)) : P w pc lv (st) := by
  obtain ⟨p, e, s, m, args, below, meth, c, cells, slots, Q, A, rfl, hx, hb, hml, hown, hTB, hNL, hK, hG, hcs, hScr, hri, hrv⟩ := hX
  subst hq
  intro H locs ls hP hS hl
  exact lv_iload hx hb hd (hl.gi hg) (kk H locs ls hP hS hl)
theorem pw_aload_n {l : Launch} {g : Geo} {own : String} {cc : ByteArray} {rm : Room} {nL : Nat} {ret : Option FieldType} {fin : Option Value → WD → Prop} {X : Nat → Nat → (Nat → Int32) → Prop} {P : PT} (hX : Gd l g own cc rm nL ret fin X P) {w : WD} {pc q : Nat} {lv : List (Option Value)} {st : List Value} {k : Fin 4} {x : Nat} (hg : lg lv k = some (.ref x)) (hd : decode cc pc = .ok (.aload_n k, 1)) (hq : pc + 1 = q) (kk : P w q lv (.ref x :: st)) : P w pc lv (st) := by
  obtain ⟨p, e, s, m, args, below, meth, c, cells, slots, Q, A, rfl, hx, hb, hml, hown, hTB, hNL, hK, hG, hcs, hScr, hri, hrv⟩ := hX
  subst hq
  intro H locs ls hP hS hl
  exact lv_aload_n hx hb hd rfl (hl.gi hg) (kk H locs ls hP hS hl)
theorem pw_aload {l : Launch} {g : Geo} {own : String} {cc : ByteArray} {rm : Room} {nL : Nat} {ret : Option FieldType} {fin : Option Value → WD → Prop} {X : Nat → Nat → (Nat → Int32) → Prop} {P : PT} (hX : Gd l g own cc rm nL ret fin X P) {w : WD} {pc q : Nat} {lv : List (Option Value)} {st : List Value} {i : Nat} {x : Nat} (hg : lg lv i = some (.ref x)) (hd : decode cc pc = .ok (.aload i, 2)) (hq : pc + 2 = q) (kk : P w q lv (.ref x :: st)) : P w pc lv (st) := by
  obtain ⟨p, e, s, m, args, below, meth, c, cells, slots, Q, A, rfl, hx, hb, hml, hown, hTB, hNL, hK, hG, hcs, hScr, hri, hrv⟩ := hX
  subst hq
  intro H locs ls hP hS hl
  exact lv_aload hx hb hd (hl.gi hg) (kk H locs ls hP hS hl)
theorem pw_istore_n {l : Launch} {g : Geo} {own : String} {cc : ByteArray} {rm : Room} {nL : Nat} {ret : Option FieldType} {fin : Option Value → WD → Prop} {X : Nat → Nat → (Nat → Int32) → Prop} {P : PT} (hX : Gd l g own cc rm nL ret fin X P) {w : WD} {pc q : Nat} {lv : List (Option Value)} {st : List Value} {k : Fin 4} {x : Int32} (hi : (k : Nat) < nL) (hd : decode cc pc = .ok (.istore_n k, 1)) (hq : pc + 1 = q) (kk : P w q (lst lv k (.int x)) (st)) : P w pc lv (.int x :: st) := by
  obtain ⟨p, e, s, m, args, below, meth, c, cells, slots, Q, A, rfl, hx, hb, hml, hown, hTB, hNL, hK, hG, hcs, hScr, hri, hrv⟩ := hX
  subst hq
  intro H locs ls hP hS hl
  exact lv_istore_n hx hb hd rfl hl.has hi rfl (fun ls' h' => kk H locs ls' hP hS (hl.put rfl h'))
theorem pw_istore {l : Launch} {g : Geo} {own : String} {cc : ByteArray} {rm : Room} {nL : Nat} {ret : Option FieldType} {fin : Option Value → WD → Prop} {X : Nat → Nat → (Nat → Int32) → Prop} {P : PT} (hX : Gd l g own cc rm nL ret fin X P) {w : WD} {pc q : Nat} {lv : List (Option Value)} {st : List Value} {i : Nat} {x : Int32} (hi : i < nL) (hd : decode cc pc = .ok (.istore i, 2)) (hq : pc + 2 = q) (kk : P w q (lst lv i (.int x)) (st)) : P w pc lv (.int x :: st) := by
  obtain ⟨p, e, s, m, args, below, meth, c, cells, slots, Q, A, rfl, hx, hb, hml, hown, hTB, hNL, hK, hG, hcs, hScr, hri, hrv⟩ := hX
  subst hq
  intro H locs ls hP hS hl
  exact lv_istore hx hb hd hl.has hi rfl (fun ls' h' => kk H locs ls' hP hS (hl.put rfl h'))
theorem pw_astore_n {l : Launch} {g : Geo} {own : String} {cc : ByteArray} {rm : Room} {nL : Nat} {ret : Option FieldType} {fin : Option Value → WD → Prop} {X : Nat → Nat → (Nat → Int32) → Prop} {P : PT} (hX : Gd l g own cc rm nL ret fin X P) {w : WD} {pc q : Nat} {lv : List (Option Value)} {st : List Value} {k : Fin 4} {x : Nat} (hi : (k : Nat) < nL) (hd : decode cc pc = .ok (.astore_n k, 1)) (hq : pc + 1 = q) (kk : P w q (lst lv k (.ref x)) (st)) : P w pc lv (.ref x :: st) := by
  obtain ⟨p, e, s, m, args, below, meth, c, cells, slots, Q, A, rfl, hx, hb, hml, hown, hTB, hNL, hK, hG, hcs, hScr, hri, hrv⟩ := hX
  subst hq
  intro H locs ls hP hS hl
  exact lv_astore_n hx hb hd rfl hl.has hi rfl (fun ls' h' => kk H locs ls' hP hS (hl.put rfl h'))
theorem pw_iinc {l : Launch} {g : Geo} {own : String} {cc : ByteArray} {rm : Room} {nL : Nat} {ret : Option FieldType} {fin : Option Value → WD → Prop} {X : Nat → Nat → (Nat → Int32) → Prop} {P : PT} (hX : Gd l g own cc rm nL ret fin X P) {w : WD} {pc q : Nat} {lv : List (Option Value)} {st : List Value} {i : Nat} {n : Int} {x y : Int32} (hg : lg lv i = some (.int x)) (hi : i < nL) (hy : x + Int32.ofInt n = y) (hd : decode cc pc = .ok (.iinc i n, 3)) (hq : pc + 3 = q) (kk : P w q (lst lv i (.int y)) (st)) : P w pc lv (st) := by
  obtain ⟨p, e, s, m, args, below, meth, c, cells, slots, Q, A, rfl, hx, hb, hml, hown, hTB, hNL, hK, hG, hcs, hScr, hri, hrv⟩ := hX
  subst hq
  intro H locs ls hP hS hl
  obtain ⟨k, hk⟩ := List.getElem?_of_mem (lvl_mem hi hg)
  exact lv_iinc hx hb hd hl.has hk hy hi rfl (fun ls' h' => kk H locs ls' hP hS (hl.put rfl h'))
theorem pw_iadd {l : Launch} {g : Geo} {own : String} {cc : ByteArray} {rm : Room} {nL : Nat} {ret : Option FieldType} {fin : Option Value → WD → Prop} {X : Nat → Nat → (Nat → Int32) → Prop} {P : PT} (hX : Gd l g own cc rm nL ret fin X P) {w : WD} {pc q : Nat} {lv : List (Option Value)} {st : List Value} {x y : Int32} (hd : decode cc pc = .ok (.iadd, 1)) (hq : pc + 1 = q) (kk : P w q lv (.int (x + y) :: st)) : P w pc lv (.int y :: .int x :: st) := by
  obtain ⟨p, e, s, m, args, below, meth, c, cells, slots, Q, A, rfl, hx, hb, hml, hown, hTB, hNL, hK, hG, hcs, hScr, hri, hrv⟩ := hX
  subst hq
  intro H locs ls hP hS hl
  exact lv_iadd hx hb hd (kk H locs ls hP hS hl)
theorem pw_isub {l : Launch} {g : Geo} {own : String} {cc : ByteArray} {rm : Room} {nL : Nat} {ret : Option FieldType} {fin : Option Value → WD → Prop} {X : Nat → Nat → (Nat → Int32) → Prop} {P : PT} (hX : Gd l g own cc rm nL ret fin X P) {w : WD} {pc q : Nat} {lv : List (Option Value)} {st : List Value} {x y : Int32} (hd : decode cc pc = .ok (.isub, 1)) (hq : pc + 1 = q) (kk : P w q lv (.int (x - y) :: st)) : P w pc lv (.int y :: .int x :: st) := by
  obtain ⟨p, e, s, m, args, below, meth, c, cells, slots, Q, A, rfl, hx, hb, hml, hown, hTB, hNL, hK, hG, hcs, hScr, hri, hrv⟩ := hX
  subst hq
  intro H locs ls hP hS hl
  exact lv_isub hx hb hd (kk H locs ls hP hS hl)
theorem pw_imul {l : Launch} {g : Geo} {own : String} {cc : ByteArray} {rm : Room} {nL : Nat} {ret : Option FieldType} {fin : Option Value → WD → Prop} {X : Nat → Nat → (Nat → Int32) → Prop} {P : PT} (hX : Gd l g own cc rm nL ret fin X P) {w : WD} {pc q : Nat} {lv : List (Option Value)} {st : List Value} {x y : Int32} (hd : decode cc pc = .ok (.imul, 1)) (hq : pc + 1 = q) (kk : P w q lv (.int (x * y) :: st)) : P w pc lv (.int y :: .int x :: st) := by
  obtain ⟨p, e, s, m, args, below, meth, c, cells, slots, Q, A, rfl, hx, hb, hml, hown, hTB, hNL, hK, hG, hcs, hScr, hri, hrv⟩ := hX
  subst hq
  intro H locs ls hP hS hl
  exact lv_imul hx hb hd (kk H locs ls hP hS hl)
theorem pw_iand {l : Launch} {g : Geo} {own : String} {cc : ByteArray} {rm : Room} {nL : Nat} {ret : Option FieldType} {fin : Option Value → WD → Prop} {X : Nat → Nat → (Nat → Int32) → Prop} {P : PT} (hX : Gd l g own cc rm nL ret fin X P) {w : WD} {pc q : Nat} {lv : List (Option Value)} {st : List Value} {x y : Int32} (hd : decode cc pc = .ok (.iand, 1)) (hq : pc + 1 = q) (kk : P w q lv (.int (x &&& y) :: st)) : P w pc lv (.int y :: .int x :: st) := by
  obtain ⟨p, e, s, m, args, below, meth, c, cells, slots, Q, A, rfl, hx, hb, hml, hown, hTB, hNL, hK, hG, hcs, hScr, hri, hrv⟩ := hX
  subst hq
  intro H locs ls hP hS hl
  exact lv_iand hx hb hd (kk H locs ls hP hS hl)
theorem pw_ior {l : Launch} {g : Geo} {own : String} {cc : ByteArray} {rm : Room} {nL : Nat} {ret : Option FieldType} {fin : Option Value → WD → Prop} {X : Nat → Nat → (Nat → Int32) → Prop} {P : PT} (hX : Gd l g own cc rm nL ret fin X P) {w : WD} {pc q : Nat} {lv : List (Option Value)} {st : List Value} {x y : Int32} (hd : decode cc pc = .ok (.ior, 1)) (hq : pc + 1 = q) (kk : P w q lv (.int (x ||| y) :: st)) : P w pc lv (.int y :: .int x :: st) := by
  obtain ⟨p, e, s, m, args, below, meth, c, cells, slots, Q, A, rfl, hx, hb, hml, hown, hTB, hNL, hK, hG, hcs, hScr, hri, hrv⟩ := hX
  subst hq
  intro H locs ls hP hS hl
  exact lv_ior hx hb hd (kk H locs ls hP hS hl)
theorem pw_ixor {l : Launch} {g : Geo} {own : String} {cc : ByteArray} {rm : Room} {nL : Nat} {ret : Option FieldType} {fin : Option Value → WD → Prop} {X : Nat → Nat → (Nat → Int32) → Prop} {P : PT} (hX : Gd l g own cc rm nL ret fin X P) {w : WD} {pc q : Nat} {lv : List (Option Value)} {st : List Value} {x y : Int32} (hd : decode cc pc = .ok (.ixor, 1)) (hq : pc + 1 = q) (kk : P w q lv (.int (x ^^^ y) :: st)) : P w pc lv (.int y :: .int x :: st) := by
  obtain ⟨p, e, s, m, args, below, meth, c, cells, slots, Q, A, rfl, hx, hb, hml, hown, hTB, hNL, hK, hG, hcs, hScr, hri, hrv⟩ := hX
  subst hq
  intro H locs ls hP hS hl
  exact lv_ixor hx hb hd (kk H locs ls hP hS hl)
theorem pw_ishl {l : Launch} {g : Geo} {own : String} {cc : ByteArray} {rm : Room} {nL : Nat} {ret : Option FieldType} {fin : Option Value → WD → Prop} {X : Nat → Nat → (Nat → Int32) → Prop} {P : PT} (hX : Gd l g own cc rm nL ret fin X P) {w : WD} {pc q : Nat} {lv : List (Option Value)} {st : List Value} {x y : Int32} (hd : decode cc pc = .ok (.ishl, 1)) (hq : pc + 1 = q) (kk : P w q lv (.int (x <<< (y &&& 31)) :: st)) : P w pc lv (.int y :: .int x :: st) := by
  obtain ⟨p, e, s, m, args, below, meth, c, cells, slots, Q, A, rfl, hx, hb, hml, hown, hTB, hNL, hK, hG, hcs, hScr, hri, hrv⟩ := hX
  subst hq
  intro H locs ls hP hS hl
  exact lv_ishl hx hb hd (kk H locs ls hP hS hl)
theorem pw_iushr {l : Launch} {g : Geo} {own : String} {cc : ByteArray} {rm : Room} {nL : Nat} {ret : Option FieldType} {fin : Option Value → WD → Prop} {X : Nat → Nat → (Nat → Int32) → Prop} {P : PT} (hX : Gd l g own cc rm nL ret fin X P) {w : WD} {pc q : Nat} {lv : List (Option Value)} {st : List Value} {x y : Int32} (hd : decode cc pc = .ok (.iushr, 1)) (hq : pc + 1 = q) (kk : P w q lv (.int ((x.toUInt32 >>> (y.toUInt32 &&& Int32.toUInt32 31)).toInt32) :: st)) : P w pc lv (.int y :: .int x :: st) := by
  obtain ⟨p, e, s, m, args, below, meth, c, cells, slots, Q, A, rfl, hx, hb, hml, hown, hTB, hNL, hK, hG, hcs, hScr, hri, hrv⟩ := hX
  subst hq
  intro H locs ls hP hS hl
  exact lv_iushr hx hb hd rfl (kk H locs ls hP hS hl)
theorem pw_irem {l : Launch} {g : Geo} {own : String} {cc : ByteArray} {rm : Room} {nL : Nat} {ret : Option FieldType} {fin : Option Value → WD → Prop} {X : Nat → Nat → (Nat → Int32) → Prop} {P : PT} (hX : Gd l g own cc rm nL ret fin X P) {w : WD} {pc q : Nat} {lv : List (Option Value)} {st : List Value} {x y : Int32} (hy : ¬ y = 0) (hd : decode cc pc = .ok (.irem, 1)) (hq : pc + 1 = q) (kk : P w q lv (.int (x - x / y * y) :: st)) : P w pc lv (.int y :: .int x :: st) := by
  obtain ⟨p, e, s, m, args, below, meth, c, cells, slots, Q, A, rfl, hx, hb, hml, hown, hTB, hNL, hK, hG, hcs, hScr, hri, hrv⟩ := hX
  subst hq
  intro H locs ls hP hS hl
  exact lv_irem hx hb hd hy (kk H locs ls hP hS hl)
theorem pw_idiv {l : Launch} {g : Geo} {own : String} {cc : ByteArray} {rm : Room} {nL : Nat} {ret : Option FieldType} {fin : Option Value → WD → Prop} {X : Nat → Nat → (Nat → Int32) → Prop} {P : PT} (hX : Gd l g own cc rm nL ret fin X P) {w : WD} {pc q : Nat} {lv : List (Option Value)} {st : List Value} {x y : Int32} (hy : ¬ y = 0) (hd : decode cc pc = .ok (.idiv, 1)) (hq : pc + 1 = q) (kk : P w q lv (.int (x / y) :: st)) : P w pc lv (.int y :: .int x :: st) := by
  obtain ⟨p, e, s, m, args, below, meth, c, cells, slots, Q, A, rfl, hx, hb, hml, hown, hTB, hNL, hK, hG, hcs, hScr, hri, hrv⟩ := hX
  subst hq
  intro H locs ls hP hS hl
  exact lv_idiv hx hb hd hy (kk H locs ls hP hS hl)
theorem pw_i2c {l : Launch} {g : Geo} {own : String} {cc : ByteArray} {rm : Room} {nL : Nat} {ret : Option FieldType} {fin : Option Value → WD → Prop} {X : Nat → Nat → (Nat → Int32) → Prop} {P : PT} (hX : Gd l g own cc rm nL ret fin X P) {w : WD} {pc q : Nat} {lv : List (Option Value)} {st : List Value} {x v : Int32} (hv : (x.toUInt32 % 65536).toInt32 = v) (hd : decode cc pc = .ok (.i2c, 1)) (hq : pc + 1 = q) (kk : P w q lv (.int v :: st)) : P w pc lv (.int x :: st) := by
  obtain ⟨p, e, s, m, args, below, meth, c, cells, slots, Q, A, rfl, hx, hb, hml, hown, hTB, hNL, hK, hG, hcs, hScr, hri, hrv⟩ := hX
  subst hq
  intro H locs ls hP hS hl
  exact lv_i2c hx hb hd hv (kk H locs ls hP hS hl)
theorem pw_iaddN {l : Launch} {g : Geo} {own : String} {cc : ByteArray} {rm : Room} {nL : Nat} {ret : Option FieldType} {fin : Option Value → WD → Prop} {X : Nat → Nat → (Nat → Int32) → Prop} {P : PT} (hX : Gd l g own cc rm nL ret fin X P) {w : WD} {pc q : Nat} {lv : List (Option Value)} {st : List Value} {a b : Nat} (hd : decode cc pc = .ok (.iadd, 1)) (hq : pc + 1 = q) (kk : P w q lv (.int (nI (a + b)) :: st)) : P w pc lv (.int (nI b) :: .int (nI a) :: st) := pw_iadd hX hd hq (by rw [nI_add]; exact kk)
theorem pw_imulN {l : Launch} {g : Geo} {own : String} {cc : ByteArray} {rm : Room} {nL : Nat} {ret : Option FieldType} {fin : Option Value → WD → Prop} {X : Nat → Nat → (Nat → Int32) → Prop} {P : PT} (hX : Gd l g own cc rm nL ret fin X P) {w : WD} {pc q : Nat} {lv : List (Option Value)} {st : List Value} {a b : Nat} (hd : decode cc pc = .ok (.imul, 1)) (hq : pc + 1 = q) (kk : P w q lv (.int (nI (a * b)) :: st)) : P w pc lv (.int (nI b) :: .int (nI a) :: st) := pw_imul hX hd hq (by rw [pk_mul]; exact kk)
theorem pw_isubN {l : Launch} {g : Geo} {own : String} {cc : ByteArray} {rm : Room} {nL : Nat} {ret : Option FieldType} {fin : Option Value → WD → Prop} {X : Nat → Nat → (Nat → Int32) → Prop} {P : PT} (hX : Gd l g own cc rm nL ret fin X P) {w : WD} {pc q : Nat} {lv : List (Option Value)} {st : List Value} {a b : Nat} (hab : b ≤ a) (hd : decode cc pc = .ok (.isub, 1)) (hq : pc + 1 = q) (kk : P w q lv (.int (nI (a - b)) :: st)) : P w pc lv (.int (nI b) :: .int (nI a) :: st) := pw_isub hX hd hq (by rw [pk_sub hab]; exact kk)
theorem pw_dup {l : Launch} {g : Geo} {own : String} {cc : ByteArray} {rm : Room} {nL : Nat} {ret : Option FieldType} {fin : Option Value → WD → Prop} {X : Nat → Nat → (Nat → Int32) → Prop} {P : PT} (hX : Gd l g own cc rm nL ret fin X P) {w : WD} {pc q : Nat} {lv : List (Option Value)} {st : List Value} {v : Value} (hv : v.category = 1) (hd : decode cc pc = .ok (.dup, 1)) (hq : pc + 1 = q) (kk : P w q lv (v :: v :: st)) : P w pc lv (v :: st) := by
  obtain ⟨p, e, s, m, args, below, meth, c, cells, slots, Q, A, rfl, hx, hb, hml, hown, hTB, hNL, hK, hG, hcs, hScr, hri, hrv⟩ := hX
  subst hq
  intro H locs ls hP hS hl
  exact lv_dup hx hb hd hv (kk H locs ls hP hS hl)
theorem pw_dup2 {l : Launch} {g : Geo} {own : String} {cc : ByteArray} {rm : Room} {nL : Nat} {ret : Option FieldType} {fin : Option Value → WD → Prop} {X : Nat → Nat → (Nat → Int32) → Prop} {P : PT} (hX : Gd l g own cc rm nL ret fin X P) {w : WD} {pc q : Nat} {lv : List (Option Value)} {st : List Value} {v u : Value} (hv : v.category = 1) (hu : u.category = 1) (hd : decode cc pc = .ok (.dup2, 1)) (hq : pc + 1 = q) (kk : P w q lv (v :: u :: v :: u :: st)) : P w pc lv (v :: u :: st) := by
  obtain ⟨p, e, s, m, args, below, meth, c, cells, slots, Q, A, rfl, hx, hb, hml, hown, hTB, hNL, hK, hG, hcs, hScr, hri, hrv⟩ := hX
  subst hq
  intro H locs ls hP hS hl
  exact lv_dup2_11 hx hb hd hv hu (kk H locs ls hP hS hl)
theorem pw_pop {l : Launch} {g : Geo} {own : String} {cc : ByteArray} {rm : Room} {nL : Nat} {ret : Option FieldType} {fin : Option Value → WD → Prop} {X : Nat → Nat → (Nat → Int32) → Prop} {P : PT} (hX : Gd l g own cc rm nL ret fin X P) {w : WD} {pc q : Nat} {lv : List (Option Value)} {st : List Value} {v : Value} (hv : v.category = 1) (hd : decode cc pc = .ok (.pop, 1)) (hq : pc + 1 = q) (kk : P w q lv (st)) : P w pc lv (v :: st) := by
  obtain ⟨p, e, s, m, args, below, meth, c, cells, slots, Q, A, rfl, hx, hb, hml, hown, hTB, hNL, hK, hG, hcs, hScr, hri, hrv⟩ := hX
  subst hq
  intro H locs ls hP hS hl
  exact lv_pop hx hb hd hv (kk H locs ls hP hS hl)
theorem pw_if_eq {l : Launch} {g : Geo} {own : String} {cc : ByteArray} {rm : Room} {nL : Nat} {ret : Option FieldType} {fin : Option Value → WD → Prop} {X : Nat → Nat → (Nat → Int32) → Prop} {P : PT} (hX : Gd l g own cc rm nL ret fin X P) {w : WD} {pc q : Nat} {lv : List (Option Value)} {st : List Value} {x : Int32} {off : Int} {tgt : Nat} (hd : decode cc pc = .ok (.ifCond .eq off, 3)) (hq : pc + 3 = q) (ht : (pc : Int) + off = (tgt : Int)) (kt : x = 0 → P w tgt lv st) (kf : ¬ x = 0 → P w q lv st) : P w pc lv (.int x :: st) := by
  obtain ⟨p, e, s, m, args, below, meth, c, cells, slots, Q, A, rfl, hx, hb, hml, hown, hTB, hNL, hK, hG, hcs, hScr, hri, hrv⟩ := hX
  subst hq
  intro H locs ls hP hS hl
  exact lv_if_eq hx hb hd ht (fun h => kt h H locs ls hP hS hl) (fun h => kf h H locs ls hP hS hl)
theorem pw_icmp_eq {l : Launch} {g : Geo} {own : String} {cc : ByteArray} {rm : Room} {nL : Nat} {ret : Option FieldType} {fin : Option Value → WD → Prop} {X : Nat → Nat → (Nat → Int32) → Prop} {P : PT} (hX : Gd l g own cc rm nL ret fin X P) {w : WD} {pc q : Nat} {lv : List (Option Value)} {st : List Value} {x y : Int32} {off : Int} {tgt : Nat} (hd : decode cc pc = .ok (.if_icmp .eq off, 3)) (hq : pc + 3 = q) (ht : (pc : Int) + off = (tgt : Int)) (kt : x = y → P w tgt lv st) (kf : ¬ x = y → P w q lv st) : P w pc lv (.int y :: .int x :: st) := by
  obtain ⟨p, e, s, m, args, below, meth, c, cells, slots, Q, A, rfl, hx, hb, hml, hown, hTB, hNL, hK, hG, hcs, hScr, hri, hrv⟩ := hX
  subst hq
  intro H locs ls hP hS hl
  exact lv_icmp_eq hx hb hd ht (fun h => kt h H locs ls hP hS hl) (fun h => kf h H locs ls hP hS hl)
theorem pw_if_ne {l : Launch} {g : Geo} {own : String} {cc : ByteArray} {rm : Room} {nL : Nat} {ret : Option FieldType} {fin : Option Value → WD → Prop} {X : Nat → Nat → (Nat → Int32) → Prop} {P : PT} (hX : Gd l g own cc rm nL ret fin X P) {w : WD} {pc q : Nat} {lv : List (Option Value)} {st : List Value} {x : Int32} {off : Int} {tgt : Nat} (hd : decode cc pc = .ok (.ifCond .ne off, 3)) (hq : pc + 3 = q) (ht : (pc : Int) + off = (tgt : Int)) (kt : ¬ x = 0 → P w tgt lv st) (kf : x = 0 → P w q lv st) : P w pc lv (.int x :: st) := by
  obtain ⟨p, e, s, m, args, below, meth, c, cells, slots, Q, A, rfl, hx, hb, hml, hown, hTB, hNL, hK, hG, hcs, hScr, hri, hrv⟩ := hX
  subst hq
  intro H locs ls hP hS hl
  exact lv_if_ne hx hb hd ht (fun h => kt h H locs ls hP hS hl) (fun h => kf h H locs ls hP hS hl)
theorem pw_icmp_ne {l : Launch} {g : Geo} {own : String} {cc : ByteArray} {rm : Room} {nL : Nat} {ret : Option FieldType} {fin : Option Value → WD → Prop} {X : Nat → Nat → (Nat → Int32) → Prop} {P : PT} (hX : Gd l g own cc rm nL ret fin X P) {w : WD} {pc q : Nat} {lv : List (Option Value)} {st : List Value} {x y : Int32} {off : Int} {tgt : Nat} (hd : decode cc pc = .ok (.if_icmp .ne off, 3)) (hq : pc + 3 = q) (ht : (pc : Int) + off = (tgt : Int)) (kt : ¬ x = y → P w tgt lv st) (kf : x = y → P w q lv st) : P w pc lv (.int y :: .int x :: st) := by
  obtain ⟨p, e, s, m, args, below, meth, c, cells, slots, Q, A, rfl, hx, hb, hml, hown, hTB, hNL, hK, hG, hcs, hScr, hri, hrv⟩ := hX
  subst hq
  intro H locs ls hP hS hl
  exact lv_icmp_ne hx hb hd ht (fun h => kt h H locs ls hP hS hl) (fun h => kf h H locs ls hP hS hl)
theorem pw_if_lt {l : Launch} {g : Geo} {own : String} {cc : ByteArray} {rm : Room} {nL : Nat} {ret : Option FieldType} {fin : Option Value → WD → Prop} {X : Nat → Nat → (Nat → Int32) → Prop} {P : PT} (hX : Gd l g own cc rm nL ret fin X P) {w : WD} {pc q : Nat} {lv : List (Option Value)} {st : List Value} {x : Int32} {off : Int} {tgt : Nat} (hd : decode cc pc = .ok (.ifCond .lt off, 3)) (hq : pc + 3 = q) (ht : (pc : Int) + off = (tgt : Int)) (kt : x < 0 → P w tgt lv st) (kf : ¬ x < 0 → P w q lv st) : P w pc lv (.int x :: st) := by
  obtain ⟨p, e, s, m, args, below, meth, c, cells, slots, Q, A, rfl, hx, hb, hml, hown, hTB, hNL, hK, hG, hcs, hScr, hri, hrv⟩ := hX
  subst hq
  intro H locs ls hP hS hl
  exact lv_if_lt hx hb hd ht (fun h => kt h H locs ls hP hS hl) (fun h => kf h H locs ls hP hS hl)
theorem pw_icmp_lt {l : Launch} {g : Geo} {own : String} {cc : ByteArray} {rm : Room} {nL : Nat} {ret : Option FieldType} {fin : Option Value → WD → Prop} {X : Nat → Nat → (Nat → Int32) → Prop} {P : PT} (hX : Gd l g own cc rm nL ret fin X P) {w : WD} {pc q : Nat} {lv : List (Option Value)} {st : List Value} {x y : Int32} {off : Int} {tgt : Nat} (hd : decode cc pc = .ok (.if_icmp .lt off, 3)) (hq : pc + 3 = q) (ht : (pc : Int) + off = (tgt : Int)) (kt : x < y → P w tgt lv st) (kf : ¬ x < y → P w q lv st) : P w pc lv (.int y :: .int x :: st) := by
  obtain ⟨p, e, s, m, args, below, meth, c, cells, slots, Q, A, rfl, hx, hb, hml, hown, hTB, hNL, hK, hG, hcs, hScr, hri, hrv⟩ := hX
  subst hq
  intro H locs ls hP hS hl
  exact lv_icmp_lt hx hb hd ht (fun h => kt h H locs ls hP hS hl) (fun h => kf h H locs ls hP hS hl)
theorem pw_if_ge {l : Launch} {g : Geo} {own : String} {cc : ByteArray} {rm : Room} {nL : Nat} {ret : Option FieldType} {fin : Option Value → WD → Prop} {X : Nat → Nat → (Nat → Int32) → Prop} {P : PT} (hX : Gd l g own cc rm nL ret fin X P) {w : WD} {pc q : Nat} {lv : List (Option Value)} {st : List Value} {x : Int32} {off : Int} {tgt : Nat} (hd : decode cc pc = .ok (.ifCond .ge off, 3)) (hq : pc + 3 = q) (ht : (pc : Int) + off = (tgt : Int)) (kt : 0 ≤ x → P w tgt lv st) (kf : ¬ 0 ≤ x → P w q lv st) : P w pc lv (.int x :: st) := by
  obtain ⟨p, e, s, m, args, below, meth, c, cells, slots, Q, A, rfl, hx, hb, hml, hown, hTB, hNL, hK, hG, hcs, hScr, hri, hrv⟩ := hX
  subst hq
  intro H locs ls hP hS hl
  exact lv_if_ge hx hb hd ht (fun h => kt h H locs ls hP hS hl) (fun h => kf h H locs ls hP hS hl)
theorem pw_icmp_ge {l : Launch} {g : Geo} {own : String} {cc : ByteArray} {rm : Room} {nL : Nat} {ret : Option FieldType} {fin : Option Value → WD → Prop} {X : Nat → Nat → (Nat → Int32) → Prop} {P : PT} (hX : Gd l g own cc rm nL ret fin X P) {w : WD} {pc q : Nat} {lv : List (Option Value)} {st : List Value} {x y : Int32} {off : Int} {tgt : Nat} (hd : decode cc pc = .ok (.if_icmp .ge off, 3)) (hq : pc + 3 = q) (ht : (pc : Int) + off = (tgt : Int)) (kt : y ≤ x → P w tgt lv st) (kf : ¬ y ≤ x → P w q lv st) : P w pc lv (.int y :: .int x :: st) := by
  obtain ⟨p, e, s, m, args, below, meth, c, cells, slots, Q, A, rfl, hx, hb, hml, hown, hTB, hNL, hK, hG, hcs, hScr, hri, hrv⟩ := hX
  subst hq
  intro H locs ls hP hS hl
  exact lv_icmp_ge hx hb hd ht (fun h => kt h H locs ls hP hS hl) (fun h => kf h H locs ls hP hS hl)
theorem pw_if_gt {l : Launch} {g : Geo} {own : String} {cc : ByteArray} {rm : Room} {nL : Nat} {ret : Option FieldType} {fin : Option Value → WD → Prop} {X : Nat → Nat → (Nat → Int32) → Prop} {P : PT} (hX : Gd l g own cc rm nL ret fin X P) {w : WD} {pc q : Nat} {lv : List (Option Value)} {st : List Value} {x : Int32} {off : Int} {tgt : Nat} (hd : decode cc pc = .ok (.ifCond .gt off, 3)) (hq : pc + 3 = q) (ht : (pc : Int) + off = (tgt : Int)) (kt : 0 < x → P w tgt lv st) (kf : ¬ 0 < x → P w q lv st) : P w pc lv (.int x :: st) := by
  obtain ⟨p, e, s, m, args, below, meth, c, cells, slots, Q, A, rfl, hx, hb, hml, hown, hTB, hNL, hK, hG, hcs, hScr, hri, hrv⟩ := hX
  subst hq
  intro H locs ls hP hS hl
  exact lv_if_gt hx hb hd ht (fun h => kt h H locs ls hP hS hl) (fun h => kf h H locs ls hP hS hl)
theorem pw_icmp_gt {l : Launch} {g : Geo} {own : String} {cc : ByteArray} {rm : Room} {nL : Nat} {ret : Option FieldType} {fin : Option Value → WD → Prop} {X : Nat → Nat → (Nat → Int32) → Prop} {P : PT} (hX : Gd l g own cc rm nL ret fin X P) {w : WD} {pc q : Nat} {lv : List (Option Value)} {st : List Value} {x y : Int32} {off : Int} {tgt : Nat} (hd : decode cc pc = .ok (.if_icmp .gt off, 3)) (hq : pc + 3 = q) (ht : (pc : Int) + off = (tgt : Int)) (kt : y < x → P w tgt lv st) (kf : ¬ y < x → P w q lv st) : P w pc lv (.int y :: .int x :: st) := by
  obtain ⟨p, e, s, m, args, below, meth, c, cells, slots, Q, A, rfl, hx, hb, hml, hown, hTB, hNL, hK, hG, hcs, hScr, hri, hrv⟩ := hX
  subst hq
  intro H locs ls hP hS hl
  exact lv_icmp_gt hx hb hd ht (fun h => kt h H locs ls hP hS hl) (fun h => kf h H locs ls hP hS hl)
theorem pw_if_le {l : Launch} {g : Geo} {own : String} {cc : ByteArray} {rm : Room} {nL : Nat} {ret : Option FieldType} {fin : Option Value → WD → Prop} {X : Nat → Nat → (Nat → Int32) → Prop} {P : PT} (hX : Gd l g own cc rm nL ret fin X P) {w : WD} {pc q : Nat} {lv : List (Option Value)} {st : List Value} {x : Int32} {off : Int} {tgt : Nat} (hd : decode cc pc = .ok (.ifCond .le off, 3)) (hq : pc + 3 = q) (ht : (pc : Int) + off = (tgt : Int)) (kt : x ≤ 0 → P w tgt lv st) (kf : ¬ x ≤ 0 → P w q lv st) : P w pc lv (.int x :: st) := by
  obtain ⟨p, e, s, m, args, below, meth, c, cells, slots, Q, A, rfl, hx, hb, hml, hown, hTB, hNL, hK, hG, hcs, hScr, hri, hrv⟩ := hX
  subst hq
  intro H locs ls hP hS hl
  exact lv_if_le hx hb hd ht (fun h => kt h H locs ls hP hS hl) (fun h => kf h H locs ls hP hS hl)
theorem pw_icmp_le {l : Launch} {g : Geo} {own : String} {cc : ByteArray} {rm : Room} {nL : Nat} {ret : Option FieldType} {fin : Option Value → WD → Prop} {X : Nat → Nat → (Nat → Int32) → Prop} {P : PT} (hX : Gd l g own cc rm nL ret fin X P) {w : WD} {pc q : Nat} {lv : List (Option Value)} {st : List Value} {x y : Int32} {off : Int} {tgt : Nat} (hd : decode cc pc = .ok (.if_icmp .le off, 3)) (hq : pc + 3 = q) (ht : (pc : Int) + off = (tgt : Int)) (kt : x ≤ y → P w tgt lv st) (kf : ¬ x ≤ y → P w q lv st) : P w pc lv (.int y :: .int x :: st) := by
  obtain ⟨p, e, s, m, args, below, meth, c, cells, slots, Q, A, rfl, hx, hb, hml, hown, hTB, hNL, hK, hG, hcs, hScr, hri, hrv⟩ := hX
  subst hq
  intro H locs ls hP hS hl
  exact lv_icmp_le hx hb hd ht (fun h => kt h H locs ls hP hS hl) (fun h => kf h H locs ls hP hS hl)
theorem pw_icmpN_eq {l : Launch} {g : Geo} {own : String} {cc : ByteArray} {rm : Room} {nL : Nat} {ret : Option FieldType} {fin : Option Value → WD → Prop} {X : Nat → Nat → (Nat → Int32) → Prop} {P : PT} (hX : Gd l g own cc rm nL ret fin X P) {w : WD} {pc q : Nat} {lv : List (Option Value)} {st : List Value} {a b : Nat} (ha : a < 2 ^ 31) (hb : b < 2 ^ 31) {off : Int} {tgt : Nat} (hd : decode cc pc = .ok (.if_icmp .eq off, 3)) (hq : pc + 3 = q) (ht : (pc : Int) + off = (tgt : Int)) (kt : a = b → P w tgt lv st) (kf : a ≠ b → P w q lv st) : P w pc lv (.int (nI b) :: .int (nI a) :: st) := pw_icmp_eq hX hd hq ht (fun h => kt ((nI_eq ha hb).mp h)) (fun h => kf (fun z => h ((nI_eq ha hb).mpr z)))
theorem pw_icmpN_ne {l : Launch} {g : Geo} {own : String} {cc : ByteArray} {rm : Room} {nL : Nat} {ret : Option FieldType} {fin : Option Value → WD → Prop} {X : Nat → Nat → (Nat → Int32) → Prop} {P : PT} (hX : Gd l g own cc rm nL ret fin X P) {w : WD} {pc q : Nat} {lv : List (Option Value)} {st : List Value} {a b : Nat} (ha : a < 2 ^ 31) (hb : b < 2 ^ 31) {off : Int} {tgt : Nat} (hd : decode cc pc = .ok (.if_icmp .ne off, 3)) (hq : pc + 3 = q) (ht : (pc : Int) + off = (tgt : Int)) (kt : a ≠ b → P w tgt lv st) (kf : a = b → P w q lv st) : P w pc lv (.int (nI b) :: .int (nI a) :: st) := pw_icmp_ne hX hd hq ht (fun h => kt (fun z => h ((nI_eq ha hb).mpr z))) (fun h => kf ((nI_eq ha hb).mp h))
theorem pw_icmpN_lt {l : Launch} {g : Geo} {own : String} {cc : ByteArray} {rm : Room} {nL : Nat} {ret : Option FieldType} {fin : Option Value → WD → Prop} {X : Nat → Nat → (Nat → Int32) → Prop} {P : PT} (hX : Gd l g own cc rm nL ret fin X P) {w : WD} {pc q : Nat} {lv : List (Option Value)} {st : List Value} {a b : Nat} (ha : a < 2 ^ 31) (hb : b < 2 ^ 31) {off : Int} {tgt : Nat} (hd : decode cc pc = .ok (.if_icmp .lt off, 3)) (hq : pc + 3 = q) (ht : (pc : Int) + off = (tgt : Int)) (kt : a < b → P w tgt lv st) (kf : b ≤ a → P w q lv st) : P w pc lv (.int (nI b) :: .int (nI a) :: st) := pw_icmp_lt hX hd hq ht (fun h => kt ((nI_ltI ha hb).mp h)) (fun h => kf (Nat.not_lt.mp (fun z => h ((nI_ltI ha hb).mpr z))))
theorem pw_icmpN_ge {l : Launch} {g : Geo} {own : String} {cc : ByteArray} {rm : Room} {nL : Nat} {ret : Option FieldType} {fin : Option Value → WD → Prop} {X : Nat → Nat → (Nat → Int32) → Prop} {P : PT} (hX : Gd l g own cc rm nL ret fin X P) {w : WD} {pc q : Nat} {lv : List (Option Value)} {st : List Value} {a b : Nat} (ha : a < 2 ^ 31) (hb : b < 2 ^ 31) {off : Int} {tgt : Nat} (hd : decode cc pc = .ok (.if_icmp .ge off, 3)) (hq : pc + 3 = q) (ht : (pc : Int) + off = (tgt : Int)) (kt : b ≤ a → P w tgt lv st) (kf : a < b → P w q lv st) : P w pc lv (.int (nI b) :: .int (nI a) :: st) := pw_icmp_ge hX hd hq ht (fun h => kt ((nI_leI hb ha).mp h)) (fun h => kf (Nat.not_le.mp (fun z => h ((nI_leI hb ha).mpr z))))
theorem pw_icmpN_gt {l : Launch} {g : Geo} {own : String} {cc : ByteArray} {rm : Room} {nL : Nat} {ret : Option FieldType} {fin : Option Value → WD → Prop} {X : Nat → Nat → (Nat → Int32) → Prop} {P : PT} (hX : Gd l g own cc rm nL ret fin X P) {w : WD} {pc q : Nat} {lv : List (Option Value)} {st : List Value} {a b : Nat} (ha : a < 2 ^ 31) (hb : b < 2 ^ 31) {off : Int} {tgt : Nat} (hd : decode cc pc = .ok (.if_icmp .gt off, 3)) (hq : pc + 3 = q) (ht : (pc : Int) + off = (tgt : Int)) (kt : b < a → P w tgt lv st) (kf : a ≤ b → P w q lv st) : P w pc lv (.int (nI b) :: .int (nI a) :: st) := pw_icmp_gt hX hd hq ht (fun h => kt ((nI_ltI hb ha).mp h)) (fun h => kf (Nat.not_lt.mp (fun z => h ((nI_ltI hb ha).mpr z))))
theorem pw_icmpN_le {l : Launch} {g : Geo} {own : String} {cc : ByteArray} {rm : Room} {nL : Nat} {ret : Option FieldType} {fin : Option Value → WD → Prop} {X : Nat → Nat → (Nat → Int32) → Prop} {P : PT} (hX : Gd l g own cc rm nL ret fin X P) {w : WD} {pc q : Nat} {lv : List (Option Value)} {st : List Value} {a b : Nat} (ha : a < 2 ^ 31) (hb : b < 2 ^ 31) {off : Int} {tgt : Nat} (hd : decode cc pc = .ok (.if_icmp .le off, 3)) (hq : pc + 3 = q) (ht : (pc : Int) + off = (tgt : Int)) (kt : a ≤ b → P w tgt lv st) (kf : b < a → P w q lv st) : P w pc lv (.int (nI b) :: .int (nI a) :: st) := pw_icmp_le hX hd hq ht (fun h => kt ((nI_leI ha hb).mp h)) (fun h => kf (Nat.not_le.mp (fun z => h ((nI_leI ha hb).mpr z))))
theorem pw_ifB_eq {l : Launch} {g : Geo} {own : String} {cc : ByteArray} {rm : Room} {nL : Nat} {ret : Option FieldType} {fin : Option Value → WD → Prop} {X : Nat → Nat → (Nat → Int32) → Prop} {P : PT} (hX : Gd l g own cc rm nL ret fin X P) {w : WD} {pc q : Nat} {lv : List (Option Value)} {st : List Value} {b : Bool} {off : Int} {tgt : Nat} (hd : decode cc pc = .ok (.ifCond .eq off, 3)) (hq : pc + 3 = q) (ht : (pc : Int) + off = (tgt : Int)) (kt : b = false → P w tgt lv st) (kf : b = true → P w q lv st) : P w pc lv (.int (bI b) :: st) := pw_if_eq hX hd hq ht (fun h => kt (by exact (bI_eq0 b).mp h)) (fun h => kf (by simpa [bI_eq0] using h))
theorem pw_ifB_ne {l : Launch} {g : Geo} {own : String} {cc : ByteArray} {rm : Room} {nL : Nat} {ret : Option FieldType} {fin : Option Value → WD → Prop} {X : Nat → Nat → (Nat → Int32) → Prop} {P : PT} (hX : Gd l g own cc rm nL ret fin X P) {w : WD} {pc q : Nat} {lv : List (Option Value)} {st : List Value} {b : Bool} {off : Int} {tgt : Nat} (hd : decode cc pc = .ok (.ifCond .ne off, 3)) (hq : pc + 3 = q) (ht : (pc : Int) + off = (tgt : Int)) (kt : b = true → P w tgt lv st) (kf : b = false → P w q lv st) : P w pc lv (.int (bI b) :: st) := pw_if_ne hX hd hq ht (fun h => kt (by simpa [bI_eq0] using h)) (fun h => kf (by exact (bI_eq0 b).mp h))
theorem pw_ifN_eq {l : Launch} {g : Geo} {own : String} {cc : ByteArray} {rm : Room} {nL : Nat} {ret : Option FieldType} {fin : Option Value → WD → Prop} {X : Nat → Nat → (Nat → Int32) → Prop} {P : PT} (hX : Gd l g own cc rm nL ret fin X P) {w : WD} {pc q : Nat} {lv : List (Option Value)} {st : List Value} {a : Nat} (ha : a < 2 ^ 31) {off : Int} {tgt : Nat} (hd : decode cc pc = .ok (.ifCond .eq off, 3)) (hq : pc + 3 = q) (ht : (pc : Int) + off = (tgt : Int)) (kt : a = 0 → P w tgt lv st) (kf : a ≠ 0 → P w q lv st) : P w pc lv (.int (nI a) :: st) := pw_if_eq hX hd hq ht (fun h => kt ((nI_eq ha (by decide)).mp (h.trans nI_0.symm))) (fun h => kf (fun z => h (((nI_eq ha (by decide)).mpr z).trans nI_0)))
theorem pw_ifN_ne {l : Launch} {g : Geo} {own : String} {cc : ByteArray} {rm : Room} {nL : Nat} {ret : Option FieldType} {fin : Option Value → WD → Prop} {X : Nat → Nat → (Nat → Int32) → Prop} {P : PT} (hX : Gd l g own cc rm nL ret fin X P) {w : WD} {pc q : Nat} {lv : List (Option Value)} {st : List Value} {a : Nat} (ha : a < 2 ^ 31) {off : Int} {tgt : Nat} (hd : decode cc pc = .ok (.ifCond .ne off, 3)) (hq : pc + 3 = q) (ht : (pc : Int) + off = (tgt : Int)) (kt : a ≠ 0 → P w tgt lv st) (kf : a = 0 → P w q lv st) : P w pc lv (.int (nI a) :: st) := pw_if_ne hX hd hq ht (fun h => kt (fun z => h (((nI_eq ha (by decide)).mpr z).trans nI_0))) (fun h => kf ((nI_eq ha (by decide)).mp (h.trans nI_0.symm)))
theorem pw_ifN_le {l : Launch} {g : Geo} {own : String} {cc : ByteArray} {rm : Room} {nL : Nat} {ret : Option FieldType} {fin : Option Value → WD → Prop} {X : Nat → Nat → (Nat → Int32) → Prop} {P : PT} (hX : Gd l g own cc rm nL ret fin X P) {w : WD} {pc q : Nat} {lv : List (Option Value)} {st : List Value} {a : Nat} (ha : a < 2 ^ 31) {off : Int} {tgt : Nat} (hd : decode cc pc = .ok (.ifCond .le off, 3)) (hq : pc + 3 = q) (ht : (pc : Int) + off = (tgt : Int)) (kt : a = 0 → P w tgt lv st) (kf : 0 < a → P w q lv st) : P w pc lv (.int (nI a) :: st) := pw_if_le hX hd hq ht (fun h => kt (Nat.eq_zero_of_le_zero ((nI_leI ha (by decide)).mp (by rw [nI_0]; exact h)))) (fun h => kf (Nat.not_le.mp (fun z => h (by rw [← nI_0]; exact (nI_leI ha (by decide)).mpr z))))
theorem pw_ifN_gt {l : Launch} {g : Geo} {own : String} {cc : ByteArray} {rm : Room} {nL : Nat} {ret : Option FieldType} {fin : Option Value → WD → Prop} {X : Nat → Nat → (Nat → Int32) → Prop} {P : PT} (hX : Gd l g own cc rm nL ret fin X P) {w : WD} {pc q : Nat} {lv : List (Option Value)} {st : List Value} {a : Nat} (ha : a < 2 ^ 31) {off : Int} {tgt : Nat} (hd : decode cc pc = .ok (.ifCond .gt off, 3)) (hq : pc + 3 = q) (ht : (pc : Int) + off = (tgt : Int)) (kt : 0 < a → P w tgt lv st) (kf : a = 0 → P w q lv st) : P w pc lv (.int (nI a) :: st) := pw_if_gt hX hd hq ht (fun h => kt ((nI_ltI (by decide) ha).mp (by rw [nI_0]; exact h))) (fun h => kf (Nat.eq_zero_of_not_pos (fun z => h (by rw [← nI_0]; exact (nI_ltI (by decide) ha).mpr z))))
theorem inc1 (i : Nat) : nI i + Int32.ofInt 1 = nI (i + 1) := by rw [show Int32.ofInt 1 = nI 1 by decide, nI_add]
theorem pw_goto {l : Launch} {g : Geo} {own : String} {cc : ByteArray} {rm : Room} {nL : Nat} {ret : Option FieldType} {fin : Option Value → WD → Prop} {X : Nat → Nat → (Nat → Int32) → Prop} {P : PT} (hX : Gd l g own cc rm nL ret fin X P) {w : WD} {pc : Nat} {lv : List (Option Value)} {st : List Value} {off : Int} {tgt : Nat} (hd : decode cc pc = .ok (.goto off, 3)) (ht : (pc : Int) + off = (tgt : Int)) (kk : P w tgt lv st) : P w pc lv st := by
  obtain ⟨p, e, s, m, args, below, meth, c, cells, slots, Q, A, rfl, hx, hb, hml, hown, hTB, hNL, hK, hG, hcs, hScr, hri, hrv⟩ := hX
  intro H locs ls hP hS hl
  exact lv_goto hx hb hd ht (kk H locs ls hP hS hl)
theorem pw_lookup {l : Launch} {g : Geo} {own : String} {cc : ByteArray} {rm : Room} {nL : Nat} {ret : Option FieldType} {fin : Option Value → WD → Prop} {X : Nat → Nat → (Nat → Int32) → Prop} {P : PT} (hX : Gd l g own cc rm nL ret fin X P) {w : WD} {pc : Nat} {lv : List (Option Value)} {st : List Value} {dflt : Int} {ps : Array (Int × Int)} {len : Nat} {x : Int32} {off : Int} {tgt : Nat} (hd : decode cc pc = .ok (.lookupswitch dflt ps, len)) (hp : (ps.toList.zip (ps.toList.drop 1)).all (fun (a, next) => a.1 < next.1) = true) (ho : Op.lookupswitch.offset ps.toList dflt x.toInt = off) (ht : (pc : Int) + off = (tgt : Int)) (kk : P w tgt lv st) : P w pc lv (.int x :: st) := by
  obtain ⟨p, e, s, m, args, below, meth, c, cells, slots, Q, A, rfl, hx, hb, hml, hown, hTB, hNL, hK, hG, hcs, hScr, hri, hrv⟩ := hX
  intro H locs ls hP hS hl
  exact lv_lookup hx hb hd hp ho ht (kk H locs ls hP hS hl)
theorem pw_tabOut {l : Launch} {g : Geo} {own : String} {cc : ByteArray} {rm : Room} {nL : Nat} {ret : Option FieldType} {fin : Option Value → WD → Prop} {X : Nat → Nat → (Nat → Int32) → Prop} {P : PT} (hX : Gd l g own cc rm nL ret fin X P) {w : WD} {pc : Nat} {lv : List (Option Value)} {st : List Value} {dflt lo hi : Int} {offs : Array Int} {len : Nat} {x : Int32} {tgt : Nat} (hd : decode cc pc = .ok (.tableswitch dflt lo hi offs, len)) (h : x.toInt < lo ∨ hi < x.toInt) (ht : (pc : Int) + dflt = (tgt : Int)) (kk : P w tgt lv st) : P w pc lv (.int x :: st) := by
  obtain ⟨p, e, s, m, args, below, meth, c, cells, slots, Q, A, rfl, hx, hb, hml, hown, hTB, hNL, hK, hG, hcs, hScr, hri, hrv⟩ := hX
  intro H locs ls hP hS hl
  exact lv_tableOut hx hb hd h ht (kk H locs ls hP hS hl)
theorem pw_tabIn {l : Launch} {g : Geo} {own : String} {cc : ByteArray} {rm : Room} {nL : Nat} {ret : Option FieldType} {fin : Option Value → WD → Prop} {X : Nat → Nat → (Nat → Int32) → Prop} {P : PT} (hX : Gd l g own cc rm nL ret fin X P) {w : WD} {pc : Nat} {lv : List (Option Value)} {st : List Value} {dflt lo hi : Int} {offs : Array Int} {len : Nat} {x : Int32} {off : Int} {tgt : Nat} (hd : decode cc pc = .ok (.tableswitch dflt lo hi offs, len)) (h1 : ¬ x.toInt < lo) (h2 : ¬ hi < x.toInt) (ho : offs[(x.toInt - lo).toNat]? = some off) (ht : (pc : Int) + off = (tgt : Int)) (kk : P w tgt lv st) : P w pc lv (.int x :: st) := by
  obtain ⟨p, e, s, m, args, below, meth, c, cells, slots, Q, A, rfl, hx, hb, hml, hown, hTB, hNL, hK, hG, hcs, hScr, hri, hrv⟩ := hX
  intro H locs ls hP hS hl
  exact lv_tableIn hx hb hd h1 h2 ho ht (kk H locs ls hP hS hl)
theorem pw_ireturn {l : Launch} {g : Geo} {own : String} {cc : ByteArray} {rm : Room} {nL : Nat} {ret : Option FieldType} {fin : Option Value → WD → Prop} {X : Nat → Nat → (Nat → Int32) → Prop} {P : PT} (hX : Gd l g own cc rm nL ret fin X P) {w : WD} {pc : Nat} {lv : List (Option Value)} {v : Int32} (hd : decode cc pc = .ok (.ireturn, 1)) (hr : ∃ ty, ret = some ty ∧ narrow ty (.int v) = .int v) (hf : fin (some (.int v)) w) : P w pc lv [.int v] := by
  obtain ⟨p, e, s, m, args, below, meth, c, cells, slots, Q, A, rfl, hx, hb, hml, hown, hTB, hNL, hK, hG, hcs, hScr, hri, hrv⟩ := hX
  exact hri w pc lv v hd hr hf
theorem pw_return {l : Launch} {g : Geo} {own : String} {cc : ByteArray} {rm : Room} {nL : Nat} {ret : Option FieldType} {fin : Option Value → WD → Prop} {X : Nat → Nat → (Nat → Int32) → Prop} {P : PT} (hX : Gd l g own cc rm nL ret fin X P) {w : WD} {pc : Nat} {lv : List (Option Value)} (hd : decode cc pc = .ok (.return_, 1)) (hr : ret = none) (hf : fin none w) : P w pc lv [] := by
  obtain ⟨p, e, s, m, args, below, meth, c, cells, slots, Q, A, rfl, hx, hb, hml, hown, hTB, hNL, hK, hG, hcs, hScr, hri, hrv⟩ := hX
  exact hrv w pc lv hd hr hf
theorem wl_o (g : Geo) (w : WD) {o : Nat} (h : (o, 0) ∈ g_dm) : ∃ i : Nat, g_dm[i]? = some (o, 0) ∧ (g_wl g w)[i]? = some (g_ad g o 0, .inr (g_ci o, g_fs g w o)) := by
  obtain ⟨i, h1, h2⟩ := wl_at g h
  exact ⟨i, h1, by rw [h2 w]; rfl⟩
theorem wl_a (g : Geo) (w : WD) {o k : Nat} (h : (o, k) ∈ g_dm) (hk : k ≠ 0) (h8 : o ≠ 8) : ∃ i : Nat, g_dm[i]? = some (o, k) ∧ (g_wl g w)[i]? = some (g_ad g o k, .inl ((if g_ch o k = true then g.2.2.2.1 else g.2.2.1), g_ln o k, .inl (fun j => nI (w.1 o k j)))) := by
  obtain ⟨i, h1, h2⟩ := wl_at g h
  refine ⟨i, h1, ?_⟩
  rw [h2 w]
  simp only [g_cell, if_neg hk, if_neg h8]
theorem pw_getf {l : Launch} {g : Geo} {own : String} {cc : ByteArray} {rm : Room} {nL : Nat} {ret : Option FieldType} {fin : Option Value → WD → Prop} {X : Nat → Nat → (Nat → Int32) → Prop} {P : PT} (hX : Gd l g own cc rm nL ret fin X P) {w : WD} {pc q : Nat} {lv : List (Option Value)} {st : List Value} {o k index ci N : Nat} {C : String} {T : u_T} {v : Value} (ho : (o, 0) ∈ g_dm) (hci : g_ci o = ci) (hc : vwCl[ci]? = some (C, T, N)) (hin : ∀ w ∈ u_ws C T N, w ∈ TB) (hk : k < N) (hlink : Cond.fieldLink own index (T k).1 (T k).2.1 (T k).2.2.1 ∈ TB) (hv : (g_fs g w o)[k]? = some v) (hd : decode cc pc = .ok (.getfield index, 3)) (hq : pc + 3 = q) (kk : P w q lv (v :: st)) : P w pc lv (.ref (g_ad g o 0) :: st) := by
  obtain ⟨p, e, s, m, args, below, meth, c, cells, slots, Q, A, rfl, hx, hb, hml, hown, hTB, hNL, hK, hG, hcs, hScr, hri, hrv⟩ := hX
  subst hq
  intro H locs ls hP hS hl
  subst hci
  obtain ⟨i, -, hi⟩ := wl_o g w ho
  exact va_get hx hb hTB hin hown hK hP i hi hc k hk (hTB _ hlink) (fun _ h => h) hv hd (kk H locs ls hP hS hl)
theorem pw_getfN {l : Launch} {g : Geo} {own : String} {cc : ByteArray} {rm : Room} {nL : Nat} {ret : Option FieldType} {fin : Option Value → WD → Prop} {X : Nat → Nat → (Nat → Int32) → Prop} {P : PT} (hX : Gd l g own cc rm nL ret fin X P) {w : WD} {pc q : Nat} {lv : List (Option Value)} {st : List Value} {o k index ci N : Nat} {C host : String} {T : u_T} {v : Value} (ho : (o, 0) ∈ g_dm) (hci : g_ci o = ci) (hc : vwCl[ci]? = some (C, T, N)) (hin : ∀ w ∈ u_ws C T N, w ∈ TB) (hk : k < N) (hlink : Cond.fieldLinkNest own index (T k).1 (T k).2.1 (T k).2.2.1 host ∈ NL) (hv : (g_fs g w o)[k]? = some v) (hd : decode cc pc = .ok (.getfield index, 3)) (hq : pc + 3 = q) (kk : P w q lv (v :: st)) : P w pc lv (.ref (g_ad g o 0) :: st) := by
  obtain ⟨p, e, s, m, args, below, meth, c, cells, slots, Q, A, rfl, hx, hb, hml, hown, hTB, hNL, hK, hG, hcs, hScr, hri, hrv⟩ := hX
  subst hq
  intro H locs ls hP hS hl
  subst hci
  obtain ⟨i, -, hi⟩ := wl_o g w ho
  exact va_getN hx hb hTB hin hown hK hP i hi hc k hk (va_Nw.use rfl (hNL _ hlink)) (fun _ h => h) hv hd (kk H locs ls hP hS hl)
theorem pw_putf {l : Launch} {g : Geo} {own : String} {cc : ByteArray} {rm : Room} {nL : Nat} {ret : Option FieldType} {fin : Option Value → WD → Prop} {X : Nat → Nat → (Nat → Int32) → Prop} {P : PT} (hX : Gd l g own cc rm nL ret fin X P) {w : WD} {pc q : Nat} {lv : List (Option Value)} {st : List Value} {o k index ci N : Nat} {C : String} {T : u_T} {x : Nat} (ty0 : Nat → FieldType) (hty : ∀ k, k < N → parseFieldDescriptor (T k).2.2.1 = some (ty0 k)) (hnm : ∀ a, a < N → ∀ b, b < N → a ≠ b → (T a).2.1 ≠ (T b).2.1) (ho : (o, 0) ∈ g_dm) (hci : g_ci o = ci) (hc : vwCl[ci]? = some (C, T, N)) (hin : ∀ w ∈ u_ws C T N, w ∈ TB) (hk : k < N) (hlink : Cond.fieldLink own index (T k).1 (T k).2.1 (T k).2.2.1 ∈ TB) (hfin : (T k).2.2.2 = false) (hd0 : parseFieldDescriptor (T k).2.2.1 = some .int) (hfs : g_fs g (wA w o 0 (upN (w.1 o 0) k x)) o = (g_fs g w o).set k (.int (nI x))) (hln : k < (g_fs g w o).length) (hd : decode cc pc = .ok (.putfield index, 3)) (hq : pc + 3 = q) (kk : P (wA w o 0 (upN (w.1 o 0) k x)) q lv (st)) : P w pc lv (.int (nI x) :: .ref (g_ad g o 0) :: st) := by
  obtain ⟨p, e, s, m, args, below, meth, c, cells, slots, Q, A, rfl, hx, hb, hml, hown, hTB, hNL, hK, hG, hcs, hScr, hri, hrv⟩ := hX
  subst hq
  intro H locs ls hP hS hl
  subst hci
  obtain ⟨i, h1, hi⟩ := wl_o g w ho
  refine va_put hx hb hTB hin ty0 hty hnm hown hK hP (g_D hG.1 hG.2 w) hS i hi hc k hk (hTB _ hlink) (fun _ h => h) hfin hd0 rfl rfl hln hd (fun H1 locs1 hP1 _ hS1 => kk H1 locs1 ls ?_ hS1 hl)
  have e := wl_set (g := g) (w := w) (w' := wA w o 0 (upN (w.1 o 0) k x)) (q := (o, 0)) h1 (fun o' k' _ h => cell_wA h) (e := .inr (g_ci o, (g_fs g w o).set k (.int (nI x)))) (by simp only [g_cell, if_pos]; rw [hfs])
  rw [← e]; exact hP1
theorem pw_putfN {l : Launch} {g : Geo} {own : String} {cc : ByteArray} {rm : Room} {nL : Nat} {ret : Option FieldType} {fin : Option Value → WD → Prop} {X : Nat → Nat → (Nat → Int32) → Prop} {P : PT} (hX : Gd l g own cc rm nL ret fin X P) {w : WD} {pc q : Nat} {lv : List (Option Value)} {st : List Value} {o k index ci N : Nat} {C host : String} {T : u_T} {x : Nat} (ty0 : Nat → FieldType) (hty : ∀ k, k < N → parseFieldDescriptor (T k).2.2.1 = some (ty0 k)) (hnm : ∀ a, a < N → ∀ b, b < N → a ≠ b → (T a).2.1 ≠ (T b).2.1) (ho : (o, 0) ∈ g_dm) (hci : g_ci o = ci) (hc : vwCl[ci]? = some (C, T, N)) (hin : ∀ w ∈ u_ws C T N, w ∈ TB) (hk : k < N) (hlink : Cond.fieldLinkNest own index (T k).1 (T k).2.1 (T k).2.2.1 host ∈ NL) (hfin : (T k).2.2.2 = false) (hd0 : parseFieldDescriptor (T k).2.2.1 = some .int) (hfs : g_fs g (wA w o 0 (upN (w.1 o 0) k x)) o = (g_fs g w o).set k (.int (nI x))) (hln : k < (g_fs g w o).length) (hd : decode cc pc = .ok (.putfield index, 3)) (hq : pc + 3 = q) (kk : P (wA w o 0 (upN (w.1 o 0) k x)) q lv (st)) : P w pc lv (.int (nI x) :: .ref (g_ad g o 0) :: st) := by
  obtain ⟨p, e, s, m, args, below, meth, c, cells, slots, Q, A, rfl, hx, hb, hml, hown, hTB, hNL, hK, hG, hcs, hScr, hri, hrv⟩ := hX
  subst hq
  intro H locs ls hP hS hl
  subst hci
  obtain ⟨i, h1, hi⟩ := wl_o g w ho
  refine va_putN hx hb hTB hin ty0 hty hnm hown hK hP (g_D hG.1 hG.2 w) hS i hi hc k hk (va_Nw.use rfl (hNL _ hlink)) (fun _ h => h) hfin hd0 rfl rfl hln hd (fun H1 locs1 hP1 _ hS1 => kk H1 locs1 ls ?_ hS1 hl)
  have e := wl_set (g := g) (w := w) (w' := wA w o 0 (upN (w.1 o 0) k x)) (q := (o, 0)) h1 (fun o' k' _ h => cell_wA h) (e := .inr (g_ci o, (g_fs g w o).set k (.int (nI x)))) (by simp only [g_cell, if_pos]; rw [hfs])
  rw [← e]; exact hP1
theorem g_ln_le (o k : Nat) : g_ln o k ≤ 3252 := by
  unfold g_ln lnV lnM
  repeat' split
  all_goals omega
theorem nIc {i : Nat} (h : i < 3252) : (nI i).toNatClampNeg = i := nI_clamp (by omega)
theorem pw_iald {l : Launch} {g : Geo} {own : String} {cc : ByteArray} {rm : Room} {nL : Nat} {ret : Option FieldType} {fin : Option Value → WD → Prop} {X : Nat → Nat → (Nat → Int32) → Prop} {P : PT} (hX : Gd l g own cc rm nL ret fin X P) {w : WD} {pc q : Nat} {lv : List (Option Value)} {st : List Value} {o k i : Nat} (hz : (o, k) ∈ g_dm) (hk : k ≠ 0) (h8 : o ≠ 8) (hch : g_ch o k = false) (hlt : i < g_ln o k) (hd : decode cc pc = .ok (.iaload, 1)) (hq : pc + 1 = q) (kk : P w q lv (.int (nI (w.1 o k i)) :: st)) : P w pc lv (.int (nI i) :: .ref (g_ad g o k) :: st) := by
  obtain ⟨p, e, s, m, args, below, meth, c, cells, slots, Q, A, rfl, hx, hb, hml, hown, hTB, hNL, hK, hG, hcs, hScr, hri, hrv⟩ := hX
  subst hq
  intro H locs ls hP hS hl
  obtain ⟨j, -, hj⟩ := wl_a g w hz hk h8
  rw [hch] at hj
  refine va_iald hx hb hK hP j 0 (i := nI i) hj rfl (vp_in_nI hlt (Nat.lt_of_le_of_lt (g_ln_le o k) (by decide))) hd ?_
  rw [nIc (Nat.lt_of_lt_of_le hlt (g_ln_le o k))]
  exact kk H locs ls hP hS hl
theorem pw_iast {l : Launch} {g : Geo} {own : String} {cc : ByteArray} {rm : Room} {nL : Nat} {ret : Option FieldType} {fin : Option Value → WD → Prop} {X : Nat → Nat → (Nat → Int32) → Prop} {P : PT} (hX : Gd l g own cc rm nL ret fin X P) {w : WD} {pc q : Nat} {lv : List (Option Value)} {st : List Value} {o k i : Nat} (hz : (o, k) ∈ g_dm) (hk : k ≠ 0) (h8 : o ≠ 8) (hch : g_ch o k = false) (hlt : i < g_ln o k) {x : Nat} (hd : decode cc pc = .ok (.iastore, 1)) (hq : pc + 1 = q) (kk : P (wA w o k (upN (w.1 o k) i x)) q lv (st)) : P w pc lv (.int (nI x) :: .int (nI i) :: .ref (g_ad g o k) :: st) := by
  obtain ⟨p, e, s, m, args, below, meth, c, cells, slots, Q, A, rfl, hx, hb, hml, hown, hTB, hNL, hK, hG, hcs, hScr, hri, hrv⟩ := hX
  subst hq
  intro H locs ls hP hS hl
  obtain ⟨j, h1, hj⟩ := wl_a g w hz hk h8
  rw [hch] at hj
  refine va_iast hx hb hK hP (g_D hG.1 hG.2 w) hS j 0 hj rfl (vp_in_nI hlt (Nat.lt_of_le_of_lt (g_ln_le o k) (by decide))) hd (fun H1 locs1 hP1 _ hS1 => kk H1 locs1 ls ?_ hS1 hl)
  rw [nIc (Nat.lt_of_lt_of_le hlt (g_ln_le o k)), upN_I] at hP1
  have e := wl_set (g := g) (w := w) (w' := wA w o k (upN (w.1 o k) i x)) (q := (o, k)) h1 (fun o' k' _ h => cell_wA h) (e := .inl (_, g_ln o k, .inl (fun j => nI (upN (w.1 o k) i x j)))) (by simp only [g_cell, if_neg hk, if_neg h8, wA_s, hch]; rfl)
  rw [← e]; exact hP1
theorem pw_cald {l : Launch} {g : Geo} {own : String} {cc : ByteArray} {rm : Room} {nL : Nat} {ret : Option FieldType} {fin : Option Value → WD → Prop} {X : Nat → Nat → (Nat → Int32) → Prop} {P : PT} (hX : Gd l g own cc rm nL ret fin X P) {w : WD} {pc q : Nat} {lv : List (Option Value)} {st : List Value} {o k i : Nat} (hz : (o, k) ∈ g_dm) (hk : k ≠ 0) (h8 : o ≠ 8) (hch : g_ch o k = true) (hlt : i < g_ln o k) (hd : decode cc pc = .ok (.caload, 1)) (hq : pc + 1 = q) (kk : P w q lv (.int (nI (w.1 o k i)) :: st)) : P w pc lv (.int (nI i) :: .ref (g_ad g o k) :: st) := by
  obtain ⟨p, e, s, m, args, below, meth, c, cells, slots, Q, A, rfl, hx, hb, hml, hown, hTB, hNL, hK, hG, hcs, hScr, hri, hrv⟩ := hX
  subst hq
  intro H locs ls hP hS hl
  obtain ⟨j, -, hj⟩ := wl_a g w hz hk h8
  rw [hch] at hj
  refine va_cald hx hb hK hP j 1 (i := nI i) hj rfl (vp_in_nI hlt (Nat.lt_of_le_of_lt (g_ln_le o k) (by decide))) hd ?_
  rw [nIc (Nat.lt_of_lt_of_le hlt (g_ln_le o k))]
  exact kk H locs ls hP hS hl
theorem pw_cast {l : Launch} {g : Geo} {own : String} {cc : ByteArray} {rm : Room} {nL : Nat} {ret : Option FieldType} {fin : Option Value → WD → Prop} {X : Nat → Nat → (Nat → Int32) → Prop} {P : PT} (hX : Gd l g own cc rm nL ret fin X P) {w : WD} {pc q : Nat} {lv : List (Option Value)} {st : List Value} {o k i : Nat} (hz : (o, k) ∈ g_dm) (hk : k ≠ 0) (h8 : o ≠ 8) (hch : g_ch o k = true) (hlt : i < g_ln o k) {x : Nat} (hxc : x < 65536) (hd : decode cc pc = .ok (.castore, 1)) (hq : pc + 1 = q) (kk : P (wA w o k (upN (w.1 o k) i x)) q lv (st)) : P w pc lv (.int (nI x) :: .int (nI i) :: .ref (g_ad g o k) :: st) := by
  obtain ⟨p, e, s, m, args, below, meth, c, cells, slots, Q, A, rfl, hx, hb, hml, hown, hTB, hNL, hK, hG, hcs, hScr, hri, hrv⟩ := hX
  subst hq
  intro H locs ls hP hS hl
  have hnar : vp_nar .char (nI x) = nI x := by have hh := (pk_charN hxc).1; unfold vp_nar; rw [hh]
  obtain ⟨j, h1, hj⟩ := wl_a g w hz hk h8
  rw [hch] at hj
  refine va_cast hx hb hK hP (g_D hG.1 hG.2 w) hS j 1 hj rfl (vp_in_nI hlt (Nat.lt_of_le_of_lt (g_ln_le o k) (by decide))) hd (fun H1 locs1 hP1 _ hS1 => kk H1 locs1 ls ?_ hS1 hl)
  rw [hnar] at hP1
  rw [nIc (Nat.lt_of_lt_of_le hlt (g_ln_le o k)), upN_I] at hP1
  have e := wl_set (g := g) (w := w) (w' := wA w o k (upN (w.1 o k) i x)) (q := (o, k)) h1 (fun o' k' _ h => cell_wA h) (e := .inl (_, g_ln o k, .inl (fun j => nI (upN (w.1 o k) i x j)))) (by simp only [g_cell, if_neg hk, if_neg h8, wA_s, hch]; rfl)
  rw [← e]; exact hP1
theorem dm8 {k : Nat} (h : (8, k) ∈ g_dm) : k < 2 := by
  have h0 : g_dm.all (fun q => decide (q.1 = 8 → q.2 < 2)) = true := by decide +kernel
  exact of_decide_eq_true (List.all_eq_true.mp h0 _ h) rfl
theorem wl_h (g : Geo) (w : WD) : ∃ i : Nat, g_dm[i]? = some (8, 1) ∧ (g_wl g w)[i]? = some (g_ad g 8 1, .inl (g.2.2.2.2, 5, .inr (.inr (.inr (.inr (fun i => some (g_ad g (w.2 i) 0))))))) := by
  obtain ⟨i, h1, h2⟩ := wl_at g (q := (8, 1)) (by decide)
  exact ⟨i, h1, by rw [h2 w]; rfl⟩
theorem pw_aald {l : Launch} {g : Geo} {own : String} {cc : ByteArray} {rm : Room} {nL : Nat} {ret : Option FieldType} {fin : Option Value → WD → Prop} {X : Nat → Nat → (Nat → Int32) → Prop} {P : PT} (hX : Gd l g own cc rm nL ret fin X P) {w : WD} {pc q : Nat} {lv : List (Option Value)} {st : List Value} {i : Nat} (hlt : i < 5) (hd : decode cc pc = .ok (.aaload, 1)) (hq : pc + 1 = q) (kk : P w q lv (.ref (g_ad g (w.2 i) 0) :: st)) : P w pc lv (.int (nI i) :: .ref (g_ad g 8 1) :: st) := by
  obtain ⟨p, e, s, m, args, below, meth, c, cells, slots, Q, A, rfl, hx, hb, hml, hown, hTB, hNL, hK, hG, hcs, hScr, hri, hrv⟩ := hX
  subst hq
  intro H locs ls hP hS hl
  obtain ⟨j, -, hj⟩ := wl_h g w
  refine va_aldq hx hb hK hP j 2 (i := nI i) hj rfl (vp_in_nI hlt (by decide)) hd ?_
  rw [nIc (by omega)]
  exact kk H locs ls hP hS hl
theorem pw_aast {l : Launch} {g : Geo} {own : String} {cc : ByteArray} {rm : Room} {nL : Nat} {ret : Option FieldType} {fin : Option Value → WD → Prop} {X : Nat → Nat → (Nat → Int32) → Prop} {P : PT} (hX : Gd l g own cc rm nL ret fin X P) {w : WD} {pc q : Nat} {lv : List (Option Value)} {st : List Value} {i v : Nat} (hlt : i < 5) (hv : v < 7) (hd : decode cc pc = .ok (.aastore, 1)) (hq : pc + 1 = q) (kk : P (wH w i v) q lv (st)) : P w pc lv (.ref (g_ad g v 0) :: .int (nI i) :: .ref (g_ad g 8 1) :: st) := by
  obtain ⟨p, e, s, m, args, below, meth, c, cells, slots, Q, A, rfl, hx, hb, hml, hown, hTB, hNL, hK, hG, hcs, hScr, hri, hrv⟩ := hX
  subst hq
  intro H locs ls hP hS hl
  obtain ⟨j, h1, hj⟩ := wl_h g w
  obtain ⟨jv, -, hjv⟩ := wl_o g w (dmV hv (k := 0) (by decide))
  have hc2 : g_ci v = 2 := by simp only [g_ci, if_pos hv]
  rw [hc2] at hjv
  refine va_astq hx hb hK hP (g_D hG.1 hG.2 w) hS j 2 jv 2 (r := (RX2, TX2, 15)) hj rfl hjv rfl (vp_in_nI hlt (by decide)) hd (fun H1 locs1 hP1 _ hS1 => kk H1 locs1 ls ?_ hS1 hl)
  rw [nIc (by omega)] at hP1
  have e := wl_set (g := g) (w := w) (w' := wH w i v) (q := (8, 1)) h1 (fun o' k' hm h => by
    by_cases h8 : o' = 8
    · subst h8; exact cell_wH h (Or.inl (dm8 hm))
    · exact cell_wH h (Or.inr h8)) (e := .inl (g.2.2.2.2, 5, .inr (.inr (.inr (.inr (va_up (fun i => some (g_ad g (w.2 i) 0)) i (some (g_ad g v 0)))))))) (by
    simp only [g_cell, wH]
    simp
    funext b
    by_cases hb : b = i
    · subst hb; simp [va_up]
    · simp [va_up, hb])
  rw [← e]; exact hP1
end
section
theorem ciV {o : Nat} (h : o < 7) : g_ci o = 2 := by simp only [g_ci, if_pos h]
theorem fs_V (g : Geo) (w : WD) {o : Nat} (h : o < 7) : g_fs g w o = fsV g w o := by simp only [g_fs, if_pos h]
theorem fs_Vput (g : Geo) (w : WD) {o k : Nat} (h : o < 7) (hk : k < 4) (x : Nat) : g_fs g (wA w o 0 (upN (w.1 o 0) k x)) o = (g_fs g w o).set k (.int (nI x)) := by
  rw [fs_V g _ h, fs_V g _ h]
  rcases (show k = 0 ∨ k = 1 ∨ k = 2 ∨ k = 3 by omega) with rfl | rfl | rfl | rfl <;> simp [fsV, wA_s, upN]
theorem fs_Oput (g : Geo) (w : WD) {k : Nat} (hk : k = 1 ∨ k = 3 ∨ k = 4 ∨ k = 5) (x : Nat) : g_fs g (wA w 7 0 (upN (w.1 7 0) k x)) 7 = (g_fs g w 7).set k (.int (nI x)) := by
  rcases hk with rfl | rfl | rfl | rfl <;> simp [g_fs, fsO, wA_s, upN]
theorem fs_Hput (g : Geo) (w : WD) {k : Nat} (hk : k = 1) (x : Nat) : g_fs g (wA w 8 0 (upN (w.1 8 0) k x)) 8 = (g_fs g w 8).set k (.int (nI x)) := by
  subst hk; simp [g_fs, fsH, wA_s, upN]
theorem fs_Mput (g : Geo) (w : WD) {k : Nat} (hk : k = 4 ∨ k = 6 ∨ k = 7 ∨ k = 8) (x : Nat) : g_fs g (wA w 9 0 (upN (w.1 9 0) k x)) 9 = (g_fs g w 9).set k (.int (nI x)) := by
  rcases hk with rfl | rfl | rfl | rfl <;> simp [g_fs, fsM, wA_s, upN]
theorem fs_len (g : Geo) (w : WD) {o : Nat} (h : o < 7) : (g_fs g w o).length = 15 := by rw [fs_V g w h]; rfl
theorem pw_getV {l : Launch} {g : Geo} {own : String} {cc : ByteArray} {rm : Room} {nL : Nat} {ret : Option FieldType} {fin : Option Value → WD → Prop} {X : Nat → Nat → (Nat → Int32) → Prop} {P : PT} (hX : Gd l g own cc rm nL ret fin X P) {w : WD} {pc q : Nat} {lv : List (Option Value)} {st : List Value} {o : Nat} (ho : o < 7) (k : Nat) {v : Value} {index : Nat} (hk : k < 15) (hlink : Cond.fieldLink own index (TX2 k).1 (TX2 k).2.1 (TX2 k).2.2.1 ∈ TB) (hv : (fsV g w o)[k]? = some v) (hd : decode cc pc = .ok (.getfield index, 3)) (hq : pc + 3 = q) (kk : P w q lv (v :: st)) : P w pc lv (.ref (g_ad g o 0) :: st) := pw_getf hX (dmV ho (by decide)) (ciV ho) rfl inT_X2 hk hlink (by rw [fs_V g w ho]; exact hv) hd hq kk
theorem pw_getVN {l : Launch} {g : Geo} {own : String} {cc : ByteArray} {rm : Room} {nL : Nat} {ret : Option FieldType} {fin : Option Value → WD → Prop} {X : Nat → Nat → (Nat → Int32) → Prop} {P : PT} (hX : Gd l g own cc rm nL ret fin X P) {w : WD} {pc q : Nat} {lv : List (Option Value)} {st : List Value} {o : Nat} (ho : o < 7) (k : Nat) {v : Value} {index : Nat} {host : String} (hk : k < 15) (hlink : Cond.fieldLinkNest own index (TX2 k).1 (TX2 k).2.1 (TX2 k).2.2.1 host ∈ NL) (hv : (fsV g w o)[k]? = some v) (hd : decode cc pc = .ok (.getfield index, 3)) (hq : pc + 3 = q) (kk : P w q lv (v :: st)) : P w pc lv (.ref (g_ad g o 0) :: st) := pw_getfN hX (dmV ho (by decide)) (ciV ho) rfl inT_X2 hk hlink (by rw [fs_V g w ho]; exact hv) hd hq kk
theorem pw_putV {l : Launch} {g : Geo} {own : String} {cc : ByteArray} {rm : Room} {nL : Nat} {ret : Option FieldType} {fin : Option Value → WD → Prop} {X : Nat → Nat → (Nat → Int32) → Prop} {P : PT} (hX : Gd l g own cc rm nL ret fin X P) {w : WD} {pc q : Nat} {lv : List (Option Value)} {st : List Value} {o : Nat} (ho : o < 7) (k : Nat) {x : Nat} {index : Nat} (hk : k < 4) (hlink : Cond.fieldLink own index (TX2 k).1 (TX2 k).2.1 (TX2 k).2.2.1 ∈ TB) (hd : decode cc pc = .ok (.putfield index, 3)) (hq : pc + 3 = q) (kk : P (wA w o 0 (upN (w.1 o 0) k x)) q lv st) : P w pc lv (.int (nI x) :: .ref (g_ad g o 0) :: st) := by
  have hf : (TX2 k).2.2.2 = false := by rcases (show k = 0 ∨ k = 1 ∨ k = 2 ∨ k = 3 by omega) with rfl | rfl | rfl | rfl <;> rfl
  have hf2 : parseFieldDescriptor (TX2 k).2.2.1 = some .int := by rcases (show k = 0 ∨ k = 1 ∨ k = 2 ∨ k = 3 by omega) with rfl | rfl | rfl | rfl <;> decide +kernel
  exact pw_putf hX tyX2 tyX2_ok nmX2 (dmV ho (by decide)) (ciV ho) rfl inT_X2 (by omega) hlink hf hf2 (fs_Vput g w ho hk x) (by rw [fs_len g w ho]; omega) hd hq kk
theorem pw_getO {l : Launch} {g : Geo} {own : String} {cc : ByteArray} {rm : Room} {nL : Nat} {ret : Option FieldType} {fin : Option Value → WD → Prop} {X : Nat → Nat → (Nat → Int32) → Prop} {P : PT} (hX : Gd l g own cc rm nL ret fin X P) {w : WD} {pc q : Nat} {lv : List (Option Value)} {st : List Value} (k : Nat) {v : Value} {index : Nat} (hk : k < 6) (hlink : Cond.fieldLink own index (TX1 k).1 (TX1 k).2.1 (TX1 k).2.2.1 ∈ TB) (hv : (fsO g w)[k]? = some v) (hd : decode cc pc = .ok (.getfield index, 3)) (hq : pc + 3 = q) (kk : P w q lv (v :: st)) : P w pc lv (.ref (g_ad g 7 0) :: st) := pw_getf hX (by decide) rfl rfl inT_X1 hk hlink hv hd hq kk
theorem pw_getON {l : Launch} {g : Geo} {own : String} {cc : ByteArray} {rm : Room} {nL : Nat} {ret : Option FieldType} {fin : Option Value → WD → Prop} {X : Nat → Nat → (Nat → Int32) → Prop} {P : PT} (hX : Gd l g own cc rm nL ret fin X P) {w : WD} {pc q : Nat} {lv : List (Option Value)} {st : List Value} (k : Nat) {v : Value} {index : Nat} {host : String} (hk : k < 6) (hlink : Cond.fieldLinkNest own index (TX1 k).1 (TX1 k).2.1 (TX1 k).2.2.1 host ∈ NL) (hv : (fsO g w)[k]? = some v) (hd : decode cc pc = .ok (.getfield index, 3)) (hq : pc + 3 = q) (kk : P w q lv (v :: st)) : P w pc lv (.ref (g_ad g 7 0) :: st) := pw_getfN hX (by decide) rfl rfl inT_X1 hk hlink hv hd hq kk
theorem pw_putO {l : Launch} {g : Geo} {own : String} {cc : ByteArray} {rm : Room} {nL : Nat} {ret : Option FieldType} {fin : Option Value → WD → Prop} {X : Nat → Nat → (Nat → Int32) → Prop} {P : PT} (hX : Gd l g own cc rm nL ret fin X P) {w : WD} {pc q : Nat} {lv : List (Option Value)} {st : List Value} (k : Nat) {x : Nat} {index : Nat} (hk : k = 1 ∨ k = 3 ∨ k = 4 ∨ k = 5) (hlink : Cond.fieldLink own index (TX1 k).1 (TX1 k).2.1 (TX1 k).2.2.1 ∈ TB) (hd : decode cc pc = .ok (.putfield index, 3)) (hq : pc + 3 = q) (kk : P (wA w 7 0 (upN (w.1 7 0) k x)) q lv st) : P w pc lv (.int (nI x) :: .ref (g_ad g 7 0) :: st) := by
  have hf : (TX1 k).2.2.2 = false := by rcases hk with rfl | rfl | rfl | rfl <;> rfl
  have hf2 : parseFieldDescriptor (TX1 k).2.2.1 = some .int := by rcases hk with rfl | rfl | rfl | rfl <;> decide +kernel
  exact pw_putf hX tyX1 tyX1_ok nmX1 (by decide) rfl rfl inT_X1 (by omega) hlink hf hf2 (fs_Oput g w hk x) (by show k < 6; omega) hd hq kk
theorem pw_putON {l : Launch} {g : Geo} {own : String} {cc : ByteArray} {rm : Room} {nL : Nat} {ret : Option FieldType} {fin : Option Value → WD → Prop} {X : Nat → Nat → (Nat → Int32) → Prop} {P : PT} (hX : Gd l g own cc rm nL ret fin X P) {w : WD} {pc q : Nat} {lv : List (Option Value)} {st : List Value} (k : Nat) {x : Nat} {index : Nat} {host : String} (hk : k = 1 ∨ k = 3 ∨ k = 4 ∨ k = 5) (hlink : Cond.fieldLinkNest own index (TX1 k).1 (TX1 k).2.1 (TX1 k).2.2.1 host ∈ NL) (hd : decode cc pc = .ok (.putfield index, 3)) (hq : pc + 3 = q) (kk : P (wA w 7 0 (upN (w.1 7 0) k x)) q lv st) : P w pc lv (.int (nI x) :: .ref (g_ad g 7 0) :: st) := by
  have hf : (TX1 k).2.2.2 = false := by rcases hk with rfl | rfl | rfl | rfl <;> rfl
  have hf2 : parseFieldDescriptor (TX1 k).2.2.1 = some .int := by rcases hk with rfl | rfl | rfl | rfl <;> decide +kernel
  exact pw_putfN hX tyX1 tyX1_ok nmX1 (by decide) rfl rfl inT_X1 (by omega) hlink hf hf2 (fs_Oput g w hk x) (by show k < 6; omega) hd hq kk
theorem pw_getH {l : Launch} {g : Geo} {own : String} {cc : ByteArray} {rm : Room} {nL : Nat} {ret : Option FieldType} {fin : Option Value → WD → Prop} {X : Nat → Nat → (Nat → Int32) → Prop} {P : PT} (hX : Gd l g own cc rm nL ret fin X P) {w : WD} {pc q : Nat} {lv : List (Option Value)} {st : List Value} (k : Nat) {v : Value} {index : Nat} (hk : k < 2) (hlink : Cond.fieldLink own index (TX0 k).1 (TX0 k).2.1 (TX0 k).2.2.1 ∈ TB) (hv : (fsH g w)[k]? = some v) (hd : decode cc pc = .ok (.getfield index, 3)) (hq : pc + 3 = q) (kk : P w q lv (v :: st)) : P w pc lv (.ref (g_ad g 8 0) :: st) := pw_getf hX (by decide) rfl rfl inT_X0 hk hlink hv hd hq kk
theorem pw_getHN {l : Launch} {g : Geo} {own : String} {cc : ByteArray} {rm : Room} {nL : Nat} {ret : Option FieldType} {fin : Option Value → WD → Prop} {X : Nat → Nat → (Nat → Int32) → Prop} {P : PT} (hX : Gd l g own cc rm nL ret fin X P) {w : WD} {pc q : Nat} {lv : List (Option Value)} {st : List Value} (k : Nat) {v : Value} {index : Nat} {host : String} (hk : k < 2) (hlink : Cond.fieldLinkNest own index (TX0 k).1 (TX0 k).2.1 (TX0 k).2.2.1 host ∈ NL) (hv : (fsH g w)[k]? = some v) (hd : decode cc pc = .ok (.getfield index, 3)) (hq : pc + 3 = q) (kk : P w q lv (v :: st)) : P w pc lv (.ref (g_ad g 8 0) :: st) := pw_getfN hX (by decide) rfl rfl inT_X0 hk hlink hv hd hq kk
theorem pw_putH {l : Launch} {g : Geo} {own : String} {cc : ByteArray} {rm : Room} {nL : Nat} {ret : Option FieldType} {fin : Option Value → WD → Prop} {X : Nat → Nat → (Nat → Int32) → Prop} {P : PT} (hX : Gd l g own cc rm nL ret fin X P) {w : WD} {pc q : Nat} {lv : List (Option Value)} {st : List Value} (k : Nat) {x : Nat} {index : Nat} (hk : k = 1) (hlink : Cond.fieldLink own index (TX0 k).1 (TX0 k).2.1 (TX0 k).2.2.1 ∈ TB) (hd : decode cc pc = .ok (.putfield index, 3)) (hq : pc + 3 = q) (kk : P (wA w 8 0 (upN (w.1 8 0) k x)) q lv st) : P w pc lv (.int (nI x) :: .ref (g_ad g 8 0) :: st) := by
  have hf : (TX0 k).2.2.2 = false := by subst hk <;> rfl
  have hf2 : parseFieldDescriptor (TX0 k).2.2.1 = some .int := by subst hk <;> decide +kernel
  exact pw_putf hX tyX0 tyX0_ok nmX0 (by decide) rfl rfl inT_X0 (by omega) hlink hf hf2 (fs_Hput g w hk x) (by show k < 2; omega) hd hq kk
theorem pw_getM {l : Launch} {g : Geo} {own : String} {cc : ByteArray} {rm : Room} {nL : Nat} {ret : Option FieldType} {fin : Option Value → WD → Prop} {X : Nat → Nat → (Nat → Int32) → Prop} {P : PT} (hX : Gd l g own cc rm nL ret fin X P) {w : WD} {pc q : Nat} {lv : List (Option Value)} {st : List Value} (k : Nat) {v : Value} {index : Nat} (hk : k < 10) (hlink : Cond.fieldLink own index (TX4 k).1 (TX4 k).2.1 (TX4 k).2.2.1 ∈ TB) (hv : (fsM g w)[k]? = some v) (hd : decode cc pc = .ok (.getfield index, 3)) (hq : pc + 3 = q) (kk : P w q lv (v :: st)) : P w pc lv (.ref (g_ad g 9 0) :: st) := pw_getf hX (by decide) rfl rfl inT_X4 hk hlink hv hd hq kk
theorem pw_putM {l : Launch} {g : Geo} {own : String} {cc : ByteArray} {rm : Room} {nL : Nat} {ret : Option FieldType} {fin : Option Value → WD → Prop} {X : Nat → Nat → (Nat → Int32) → Prop} {P : PT} (hX : Gd l g own cc rm nL ret fin X P) {w : WD} {pc q : Nat} {lv : List (Option Value)} {st : List Value} (k : Nat) {x : Nat} {index : Nat} (hk : k = 4 ∨ k = 6 ∨ k = 7 ∨ k = 8) (hlink : Cond.fieldLink own index (TX4 k).1 (TX4 k).2.1 (TX4 k).2.2.1 ∈ TB) (hd : decode cc pc = .ok (.putfield index, 3)) (hq : pc + 3 = q) (kk : P (wA w 9 0 (upN (w.1 9 0) k x)) q lv st) : P w pc lv (.int (nI x) :: .ref (g_ad g 9 0) :: st) := by
  have hf : (TX4 k).2.2.2 = false := by rcases hk with rfl | rfl | rfl | rfl <;> rfl
  have hf2 : parseFieldDescriptor (TX4 k).2.2.1 = some .int := by rcases hk with rfl | rfl | rfl | rfl <;> decide +kernel
  exact pw_putf hX tyX4 tyX4_ok nmX4 (by decide) rfl rfl inT_X4 (by omega) hlink hf hf2 (fs_Mput g w hk x) (by show k < 10; omega) hd hq kk
theorem pw_getR {l : Launch} {g : Geo} {own : String} {cc : ByteArray} {rm : Room} {nL : Nat} {ret : Option FieldType} {fin : Option Value → WD → Prop} {X : Nat → Nat → (Nat → Int32) → Prop} {P : PT} (hX : Gd l g own cc rm nL ret fin X P) {w : WD} {pc q : Nat} {lv : List (Option Value)} {st : List Value} (k : Nat) {v : Value} {index : Nat} (hk : k < 4) (hlink : Cond.fieldLink own index (TX3 k).1 (TX3 k).2.1 (TX3 k).2.2.1 ∈ TB) (hv : (fsR g)[k]? = some v) (hd : decode cc pc = .ok (.getfield index, 3)) (hq : pc + 3 = q) (kk : P w q lv (v :: st)) : P w pc lv (.ref (g_ad g 10 0) :: st) := pw_getf hX (by decide) rfl rfl inT_X3 hk hlink hv hd hq kk
theorem g_chV {o k : Nat} (h : o < 7) : g_ch o k = false := by simp [g_ch]; omega
theorem g_lnV {o k : Nat} (h : o < 7) : g_ln o k = lnV k := by simp only [g_ln, if_pos h]
theorem g_lnM {k : Nat} : g_ln 9 k = lnM k := rfl
theorem g_chM {k : Nat} (h : k = 1 ∨ k = 2 ∨ k = 3 ∨ k = 4 ∨ k = 6) : g_ch 9 k = false := by rcases h with rfl | rfl | rfl | rfl | rfl <;> rfl
theorem dmM {k : Nat} (h : k = 1 ∨ k = 2 ∨ k = 3 ∨ k = 4 ∨ k = 6) : (9, k) ∈ g_dm := by rcases h with rfl | rfl | rfl | rfl | rfl <;> decide
theorem pw_ialdV {l : Launch} {g : Geo} {own : String} {cc : ByteArray} {rm : Room} {nL : Nat} {ret : Option FieldType} {fin : Option Value → WD → Prop} {X : Nat → Nat → (Nat → Int32) → Prop} {P : PT} (hX : Gd l g own cc rm nL ret fin X P) {w : WD} {pc q : Nat} {lv : List (Option Value)} {st : List Value} {o : Nat} (ho : o < 7) (k : Nat) {i : Nat} (hk : 1 ≤ k ∧ k < 12) (hlt : i < lnV k) (hd : decode cc pc = .ok (.iaload, 1)) (hq : pc + 1 = q) (kk : P w q lv (.int (nI (w.1 o k i)) :: st)) : P w pc lv (.int (nI i) :: .ref (g_ad g o k) :: st) := pw_iald hX (dmV ho hk.2) (by omega) (by omega) (g_chV ho) (by rw [g_lnV ho]; exact hlt) hd hq kk
theorem pw_iastV {l : Launch} {g : Geo} {own : String} {cc : ByteArray} {rm : Room} {nL : Nat} {ret : Option FieldType} {fin : Option Value → WD → Prop} {X : Nat → Nat → (Nat → Int32) → Prop} {P : PT} (hX : Gd l g own cc rm nL ret fin X P) {w : WD} {pc q : Nat} {lv : List (Option Value)} {st : List Value} {o : Nat} (ho : o < 7) (k : Nat) {i : Nat} {x : Nat} (hk : 1 ≤ k ∧ k < 12) (hlt : i < lnV k) (hd : decode cc pc = .ok (.iastore, 1)) (hq : pc + 1 = q) (kk : P (wA w o k (upN (w.1 o k) i x)) q lv (st)) : P w pc lv (.int (nI x) :: .int (nI i) :: .ref (g_ad g o k) :: st) := pw_iast hX (dmV ho hk.2) (by omega) (by omega) (g_chV ho) (by rw [g_lnV ho]; exact hlt) hd hq kk
theorem pw_ialdM {l : Launch} {g : Geo} {own : String} {cc : ByteArray} {rm : Room} {nL : Nat} {ret : Option FieldType} {fin : Option Value → WD → Prop} {X : Nat → Nat → (Nat → Int32) → Prop} {P : PT} (hX : Gd l g own cc rm nL ret fin X P) {w : WD} {pc q : Nat} {lv : List (Option Value)} {st : List Value} (k : Nat) {i : Nat} (hk : k = 1 ∨ k = 2 ∨ k = 3 ∨ k = 4 ∨ k = 6) (hlt : i < lnM k) (hd : decode cc pc = .ok (.iaload, 1)) (hq : pc + 1 = q) (kk : P w q lv (.int (nI (w.1 9 k i)) :: st)) : P w pc lv (.int (nI i) :: .ref (g_ad g 9 k) :: st) := pw_iald hX (dmM hk) (by omega) (by decide) (g_chM hk) (by rw [g_lnM]; exact hlt) hd hq kk
theorem pw_iastM {l : Launch} {g : Geo} {own : String} {cc : ByteArray} {rm : Room} {nL : Nat} {ret : Option FieldType} {fin : Option Value → WD → Prop} {X : Nat → Nat → (Nat → Int32) → Prop} {P : PT} (hX : Gd l g own cc rm nL ret fin X P) {w : WD} {pc q : Nat} {lv : List (Option Value)} {st : List Value} (k : Nat) {i : Nat} {x : Nat} (hk : k = 1 ∨ k = 2 ∨ k = 3 ∨ k = 4 ∨ k = 6) (hlt : i < lnM k) (hd : decode cc pc = .ok (.iastore, 1)) (hq : pc + 1 = q) (kk : P (wA w 9 k (upN (w.1 9 k) i x)) q lv (st)) : P w pc lv (.int (nI x) :: .int (nI i) :: .ref (g_ad g 9 k) :: st) := pw_iast hX (dmM hk) (by omega) (by decide) (g_chM hk) (by rw [g_lnM]; exact hlt) hd hq kk
theorem pw_ialdG {l : Launch} {g : Geo} {own : String} {cc : ByteArray} {rm : Room} {nL : Nat} {ret : Option FieldType} {fin : Option Value → WD → Prop} {X : Nat → Nat → (Nat → Int32) → Prop} {P : PT} (hX : Gd l g own cc rm nL ret fin X P) {w : WD} {pc q : Nat} {lv : List (Option Value)} {st : List Value} {i : Nat} (hlt : i < 3) (hd : decode cc pc = .ok (.iaload, 1)) (hq : pc + 1 = q) (kk : P w q lv (.int (nI (w.1 7 2 i)) :: st)) : P w pc lv (.int (nI i) :: .ref (g_ad g 7 2) :: st) := pw_iald hX (by decide) (by decide) (by decide) rfl hlt hd hq kk
theorem pw_iastG {l : Launch} {g : Geo} {own : String} {cc : ByteArray} {rm : Room} {nL : Nat} {ret : Option FieldType} {fin : Option Value → WD → Prop} {X : Nat → Nat → (Nat → Int32) → Prop} {P : PT} (hX : Gd l g own cc rm nL ret fin X P) {w : WD} {pc q : Nat} {lv : List (Option Value)} {st : List Value} {i : Nat} {x : Nat} (hlt : i < 3) (hd : decode cc pc = .ok (.iastore, 1)) (hq : pc + 1 = q) (kk : P (wA w 7 2 (upN (w.1 7 2) i x)) q lv st) : P w pc lv (.int (nI x) :: .int (nI i) :: .ref (g_ad g 7 2) :: st) := pw_iast hX (by decide) (by decide) (by decide) rfl hlt hd hq kk
theorem pw_caldG {l : Launch} {g : Geo} {own : String} {cc : ByteArray} {rm : Room} {nL : Nat} {ret : Option FieldType} {fin : Option Value → WD → Prop} {X : Nat → Nat → (Nat → Int32) → Prop} {P : PT} (hX : Gd l g own cc rm nL ret fin X P) {w : WD} {pc q : Nat} {lv : List (Option Value)} {st : List Value} {i : Nat} (hlt : i < 60) (hd : decode cc pc = .ok (.caload, 1)) (hq : pc + 1 = q) (kk : P w q lv (.int (nI (w.1 7 1 i)) :: st)) : P w pc lv (.int (nI i) :: .ref (g_ad g 7 1) :: st) := pw_cald hX (by decide) (by decide) (by decide) rfl hlt hd hq kk
theorem pw_castG {l : Launch} {g : Geo} {own : String} {cc : ByteArray} {rm : Room} {nL : Nat} {ret : Option FieldType} {fin : Option Value → WD → Prop} {X : Nat → Nat → (Nat → Int32) → Prop} {P : PT} (hX : Gd l g own cc rm nL ret fin X P) {w : WD} {pc q : Nat} {lv : List (Option Value)} {st : List Value} {i : Nat} {x : Nat} (hlt : i < 60) (hxc : x < 65536) (hd : decode cc pc = .ok (.castore, 1)) (hq : pc + 1 = q) (kk : P (wA w 7 1 (upN (w.1 7 1) i x)) q lv st) : P w pc lv (.int (nI x) :: .int (nI i) :: .ref (g_ad g 7 1) :: st) := pw_cast hX (by decide) (by decide) (by decide) rfl hlt hxc hd hq kk
theorem pw_caldM {l : Launch} {g : Geo} {own : String} {cc : ByteArray} {rm : Room} {nL : Nat} {ret : Option FieldType} {fin : Option Value → WD → Prop} {X : Nat → Nat → (Nat → Int32) → Prop} {P : PT} (hX : Gd l g own cc rm nL ret fin X P) {w : WD} {pc q : Nat} {lv : List (Option Value)} {st : List Value} {i : Nat} (hlt : i < 60) (hd : decode cc pc = .ok (.caload, 1)) (hq : pc + 1 = q) (kk : P w q lv (.int (nI (w.1 9 5 i)) :: st)) : P w pc lv (.int (nI i) :: .ref (g_ad g 9 5) :: st) := pw_cald hX (by decide) (by decide) (by decide) rfl hlt hd hq kk
theorem pw_castM {l : Launch} {g : Geo} {own : String} {cc : ByteArray} {rm : Room} {nL : Nat} {ret : Option FieldType} {fin : Option Value → WD → Prop} {X : Nat → Nat → (Nat → Int32) → Prop} {P : PT} (hX : Gd l g own cc rm nL ret fin X P) {w : WD} {pc q : Nat} {lv : List (Option Value)} {st : List Value} {i : Nat} {x : Nat} (hlt : i < 60) (hxc : x < 65536) (hd : decode cc pc = .ok (.castore, 1)) (hq : pc + 1 = q) (kk : P (wA w 9 5 (upN (w.1 9 5) i x)) q lv st) : P w pc lv (.int (nI x) :: .int (nI i) :: .ref (g_ad g 9 5) :: st) := pw_cast hX (by decide) (by decide) (by decide) rfl hlt hxc hd hq kk
def Rc (o : Nat) (C : String) : Prop := (o, 0) ∈ g_dm ∧ ∃ r : vw_C, vwCl[g_ci o]? = some r ∧ r.1 = C
theorem rcV {o : Nat} (h : o < 7) : Rc o RX2 := ⟨dmV h (by decide), _, by rw [ciV h]; rfl, rfl⟩
theorem rcO : Rc 7 RX1 := ⟨by decide, _, rfl, rfl⟩
theorem rcH : Rc 8 RX0 := ⟨by decide, _, rfl, rfl⟩
theorem rcM : Rc 9 RX4 := ⟨by decide, _, rfl, rfl⟩
theorem rcR : Rc 10 RX3 := ⟨by decide, _, rfl, rfl⟩
theorem ct_blind {g : Geo} {av : List Value} {w : WD} : FrameBlind (va_Pc av (fun U => va_P g.1 vwCl (g_wl g w) U.heap ∧ va_K g.1 vwCl (g_ty g) U ∧ (∀ x ∈ NL, va_Nw x U) ∧ Ginj g)) := fun a U fr mk q => by
  obtain ⟨q0, qP, qK, qN, qG⟩ := q
  exact ⟨q0, qP, va_K.moved (u := U) (U := U.calling fr mk a) (Vm.Alike.refl U.vm) qK, nl_same (s := U) (U := U.calling fr mk a) rfl qN, qG⟩
theorem ct_pre {g : Geo} {av : List Value} {w : WD} {s : State} {H : Heap} (hP : va_P g.1 vwCl (g_wl g w) H) (hK : va_K g.1 vwCl (g_ty g) s) (hN : ∀ x ∈ NL, va_Nw x s) (hG : Ginj g) : ∀ U : State, U.heap = H → s.WarmedH U.vm → va_Pc av (fun U => va_P g.1 vwCl (g_wl g w) U.heap ∧ va_K g.1 vwCl (g_ty g) U ∧ (∀ x ∈ NL, va_Nw x U) ∧ Ginj g) av.toArray U :=
  fun U hU hW => ⟨rfl, by rw [hU]; exact hP, va_K.moved hW.alike hK, nl_warm hW hN, hG⟩
theorem ct_ws {s : State} {args : Array Value} {y : MethodName} {bytes : ByteArray} {maxL : Nat} {ret : Option FieldType} (hTB : ∀ w ∈ TB, w.before args s = true) (hc : Cond.code y bytes maxL ret ∈ TB) : ∀ w ∈ (Cond.code y bytes maxL ret :: TB), ∀ (a' : Array Value) (U : State), s.WarmedH U.vm → w.before a' U = true := by
  intro w hw a' U hW
  have hw2 : w ∈ TB := by
    rcases List.mem_cons.mp hw with h | h
    · rw [h]; exact hc
    · exact h
  exact word_at hW (tb_good w hw2).2 (hTB w hw2)
abbrev RmOk (rm rmc : Room) (maxL : Nat) : Prop := rmc.cells = 0 ∧ rmc.slots = 0 ∧ rmc.frames + 1 ≤ rm.frames ∧ 8 + (maxL + 11) + rmc.locals ≤ rm.locals
theorem pw_callV {l : Launch} {g : Geo} {own : String} {cc : ByteArray} {rm : Room} {nL : Nat} {ret : Option FieldType} {fin : Option Value → WD → Prop} {X : Nat → Nat → (Nat → Int32) → Prop} {P : PT} (hX : Gd l g own cc rm nL ret fin X P) {w : WD} {pc q : Nat} {lv : List (Option Value)} {st : List Value} {y : MethodName} {bytes : ByteArray} {maxL n index : Nat} {rt : Option FieldType} {rmc : Room} {T : Option Value → WD → Prop} {o : Nat} {As : List Value} {st0 : List Value} (hd : decode cc pc = .ok (.invokevirtual index, 3)) (hq : pc + 3 = q) (hM : MI y bytes maxL rt n) (hlk : Cond.methodLink own index y ∈ TB) (hrc : Rc o y.cls) (hrm : RmOk rm rmc maxL) (hn : As.length = n) (hst : st0 = As.reverse ++ .ref (g_ad g o 0) :: st) (hcat : (st.map fun v => v.category).sum ≤ 8) (hC : Ct l g y bytes maxL rt rmc (.ref (g_ad g o 0) :: As) w T) (kk : ∀ r w', T r w' → P w' q lv (r.toList ++ st)) : P w pc lv st0 := by
  subst hst
  obtain ⟨p, e, s, m, args, below, meth, c, cells, slots, Q, A, rfl, hx, hb, hml, hown, hTB, hNL, hK, hG, hcs, hScr, hri, hrv⟩ := hX
  subst hq
  intro H locs ls hP hS hl
  obtain ⟨h1, h2, h3, h4, h5, h6⟩ := hM
  obtain ⟨ho, rr, hrr, hrC⟩ := hrc
  obtain ⟨io, -, hio⟩ := wl_o g w ho
  have hrecv := va_recv hK hP hrr hio
  rw [hrC] at hrecv
  have hr := va_runV (own := own) (C := y.cls) (index := index) (n := n) (y := y) (bytes := bytes) (maxL := maxL) (ret := rt) (As := As) (rest := st) (g := F0 m pc ls (As.reverse ++ .ref (g_ad g o 0) :: st)) (p := p) (e := e) (s := s) (m := m) (args := args) (below := below) (meth := meth) (c := c) (H := H) (locs := locs) (cells := cells) (slots := slots) (R := rm) ⟨hx, hb, hml, hown, hTB⟩ hC ⟨⟨hrm.1, hrm.2.1, hrm.2.2.1, hrm.2.2.2, ct_ws hTB h4, List.mem_cons_self, hTB _ h4, hTB _ h3, ⟨h5.1, h5.2.1⟩, fun sig hs => by have h9 := h5.2.2; rw [hs] at h9; exact (Option.some.inj h9).symm, hTB _ hlk⟩, hTB _ h1, hTB _ h2⟩ ⟨ct_blind, hrecv, ct_pre hP hK hNL hG.1⟩ rfl hn hl.1 rfl (lv_room hcat) hd ⟨hcs.1, hcs.2⟩
  intro TT hT XX
  obtain ⟨v, st₀, t, T', L, h0, X', hL, e1, e2, ⟨r, w', hv, hT', hP', hF⟩, stp⟩ := hr TT hT XX
  cases hv
  obtain ⟨hz, hk⟩ := hF
  rw [h0] at hz hk
  have hS1 : va_S A s.heap T'.heap (locs ++ L) := ⟨Nat.le_trans hS.1 (by rw [e1]; exact hz), fun q h1 h2 => by rw [e1, hk q (Nat.lt_of_lt_of_le h1 hS.1) (fun z => h2 (hG.2 q z))]; exact hS.2.1 q h1 h2, fun q hq => by
    rcases List.mem_append.mp hq with h | h
    · exact hS.2.2 q h
    · exact hG.2 _ (hL q h)⟩
  obtain ⟨t2, a1, b1⟩ := kk _ w' hT' T'.heap (locs ++ L) ls (by rw [e1]; exact hP') hS1 hl T' rfl X'
  exact ⟨t2, stp t2 a1, b1⟩
theorem pw_callS {l : Launch} {g : Geo} {own : String} {cc : ByteArray} {rm : Room} {nL : Nat} {ret : Option FieldType} {fin : Option Value → WD → Prop} {X : Nat → Nat → (Nat → Int32) → Prop} {P : PT} (hX : Gd l g own cc rm nL ret fin X P) {w : WD} {pc q : Nat} {lv : List (Option Value)} {st : List Value} {y : MethodName} {bytes : ByteArray} {maxL n index : Nat} {rt : Option FieldType} {rmc : Room} {T : Option Value → WD → Prop} {As : List Value} {st0 : List Value} (hd : decode cc pc = .ok (.invokestatic index, 3)) (hq : pc + 3 = q) (hM : MS y bytes maxL rt n) (hlk : Cond.methodLink own index y ∈ TB) (hrm : RmOk rm rmc maxL) (hn : As.length = n) (hst : st0 = As.reverse ++ st) (hcat : (st.map fun v => v.category).sum ≤ 8) (hC : Ct l g y bytes maxL rt rmc As w T) (kk : ∀ r w', T r w' → P w' q lv (r.toList ++ st)) : P w pc lv st0 := by
  subst hst
  obtain ⟨p, e, s, m, args, below, meth, c, cells, slots, Q, A, rfl, hx, hb, hml, hown, hTB, hNL, hK, hG, hcs, hScr, hri, hrv⟩ := hX
  subst hq
  intro H locs ls hP hS hl
  obtain ⟨h1, h3, h4, h5, h6⟩ := hM
  have hr := va_runS (own := own) (index := index) (n := n) (y := y) (bytes := bytes) (maxL := maxL) (ret := rt) (As := As) (rest := st) (g := F0 m pc ls (As.reverse ++ st)) (p := p) (e := e) (s := s) (m := m) (args := args) (below := below) (meth := meth) (c := c) (H := H) (locs := locs) (cells := cells) (slots := slots) (R := rm) ⟨hx, hb, hml, hown, hTB⟩ hC ⟨⟨hrm.1, hrm.2.1, hrm.2.2.1, hrm.2.2.2, ct_ws hTB h4, List.mem_cons_self, hTB _ h4, hTB _ h3, ⟨h5.1, h5.2.1⟩, fun sig hs => by have h9 := h5.2.2; rw [hs] at h9; exact (Option.some.inj h9).symm, hTB _ hlk⟩, hTB _ h1⟩ ⟨ct_blind, ct_pre hP hK hNL hG.1⟩ rfl hn hl.1 rfl (lv_room hcat) hd ⟨hcs.1, hcs.2⟩
  intro TT hT XX
  obtain ⟨v, st₀, t, T', L, h0, X', hL, e1, e2, ⟨r, w', hv, hT', hP', hF⟩, stp⟩ := hr TT hT XX
  cases hv
  obtain ⟨hz, hk⟩ := hF
  rw [h0] at hz hk
  have hS1 : va_S A s.heap T'.heap (locs ++ L) := ⟨Nat.le_trans hS.1 (by rw [e1]; exact hz), fun q h1 h2 => by rw [e1, hk q (Nat.lt_of_lt_of_le h1 hS.1) (fun z => h2 (hG.2 q z))]; exact hS.2.1 q h1 h2, fun q hq => by
    rcases List.mem_append.mp hq with h | h
    · exact hS.2.2 q h
    · exact hG.2 _ (hL q h)⟩
  obtain ⟨t2, a1, b1⟩ := kk _ w' hT' T'.heap (locs ++ L) ls (by rw [e1]; exact hP') hS1 hl T' rfl X'
  exact ⟨t2, stp t2 a1, b1⟩
theorem pw_callN {l : Launch} {g : Geo} {own : String} {cc : ByteArray} {rm : Room} {nL : Nat} {ret : Option FieldType} {fin : Option Value → WD → Prop} {X : Nat → Nat → (Nat → Int32) → Prop} {P : PT} (hX : Gd l g own cc rm nL ret fin X P) {w : WD} {pc q : Nat} {lv : List (Option Value)} {st : List Value} {y : MethodName} {bytes : ByteArray} {maxL n index : Nat} {rt : Option FieldType} {rmc : Room} {T : Option Value → WD → Prop} {As : List Value} {st0 : List Value} {host : String} (hd : decode cc pc = .ok (.invokestatic index, 3)) (hq : pc + 3 = q) (hM : MS y bytes maxL rt n) (hlk : Cond.methodLinkNest own index y host ∈ NL) (hrm : RmOk rm rmc maxL) (hn : As.length = n) (hst : st0 = As.reverse ++ st) (hcat : (st.map fun v => v.category).sum ≤ 8) (hC : Ct l g y bytes maxL rt rmc As w T) (kk : ∀ r w', T r w' → P w' q lv (r.toList ++ st)) : P w pc lv st0 := by
  subst hst
  obtain ⟨p, e, s, m, args, below, meth, c, cells, slots, Q, A, rfl, hx, hb, hml, hown, hTB, hNL, hK, hG, hcs, hScr, hri, hrv⟩ := hX
  subst hq
  intro H locs ls hP hS hl
  obtain ⟨h1, h3, h4, h5, h6⟩ := hM
  have hr := va_runSN (own := own) (index := index) (host := host) (n := n) (y := y) (bytes := bytes) (maxL := maxL) (ret := rt) (As := As) (rest := st) (g := F0 m pc ls (As.reverse ++ st)) (p := p) (e := e) (s := s) (m := m) (args := args) (below := below) (meth := meth) (c := c) (H := H) (locs := locs) (cells := cells) (slots := slots) (R := rm) ⟨hx, hb, hml, hown, hTB⟩ hC ⟨⟨⟨hrm.1, hrm.2.1, hrm.2.2.1, hrm.2.2.2, ct_ws hTB h4, List.mem_cons_self⟩, hTB _ h4, hTB _ h3, ⟨h5.1, h5.2.1⟩, fun sig hs => by have h9 := h5.2.2; rw [hs] at h9; exact (Option.some.inj h9).symm, va_Nw.use rfl (hNL _ hlk)⟩, hTB _ h1, trivial⟩ ⟨ct_blind, ct_pre hP hK hNL hG.1⟩ rfl hn hl.1 rfl (lv_room hcat) hd ⟨hcs.1, hcs.2⟩
  intro TT hT XX
  obtain ⟨v, st₀, t, T', L, h0, X', hL, e1, e2, ⟨r, w', hv, hT', hP', hF⟩, stp⟩ := hr TT hT XX
  cases hv
  obtain ⟨hz, hk⟩ := hF
  rw [h0] at hz hk
  have hS1 : va_S A s.heap T'.heap (locs ++ L) := ⟨Nat.le_trans hS.1 (by rw [e1]; exact hz), fun q h1 h2 => by rw [e1, hk q (Nat.lt_of_lt_of_le h1 hS.1) (fun z => h2 (hG.2 q z))]; exact hS.2.1 q h1 h2, fun q hq => by
    rcases List.mem_append.mp hq with h | h
    · exact hS.2.2 q h
    · exact hG.2 _ (hL q h)⟩
  obtain ⟨t2, a1, b1⟩ := kk _ w' hT' T'.heap (locs ++ L) ls (by rw [e1]; exact hP') hS1 hl T' rfl X'
  exact ⟨t2, stp t2 a1, b1⟩
def CtI (l : Launch) (g : Geo) (y : MethodName) (bytes : ByteArray) (maxL : Nat) (ret : Option FieldType) (rm : Room) (av : List Value) (w : WD) (r : Int32) (w' : WD) : Prop := Ct l g y bytes maxL ret rm av w (fun x z => x = some (.int r) ∧ z = w')
def CtV (l : Launch) (g : Geo) (y : MethodName) (bytes : ByteArray) (maxL : Nat) (ret : Option FieldType) (rm : Room) (av : List Value) (w : WD) (w' : WD) : Prop := Ct l g y bytes maxL ret rm av w (fun x z => x = none ∧ z = w')
theorem pw_cvI0 {l : Launch} {g : Geo} {own : String} {cc : ByteArray} {rm : Room} {nL : Nat} {ret : Option FieldType} {fin : Option Value → WD → Prop} {X : Nat → Nat → (Nat → Int32) → Prop} {P : PT} (hX : Gd l g own cc rm nL ret fin X P) {w : WD} {pc q : Nat} {lv : List (Option Value)} {st : List Value} {y : MethodName} {bytes : ByteArray} {maxL n index : Nat} {rt : Option FieldType} {rmc : Room} {w' : WD} {r : Int32} {o : Nat} (hd : decode cc pc = .ok (.invokevirtual index, 3)) (hq : pc + 3 = q) (hM : MI y bytes maxL rt n) (hlk : Cond.methodLink own index y ∈ TB) (hrc : Rc o y.cls) (hrm : RmOk rm rmc maxL) (hn : 0 = n) (hcat : (st.map fun v => v.category).sum ≤ 8) (hC : CtI l g y bytes maxL rt rmc [.ref (g_ad g o 0)] w r w') (kk : P w' q lv (.int r :: st)) : P w pc lv (.ref (g_ad g o 0) :: st) := pw_callV hX (As := []) hd hq hM hlk hrc hrm hn rfl hcat hC (fun r w2 h => by obtain ⟨rfl, rfl⟩ := h; exact kk)
theorem pw_cvV0 {l : Launch} {g : Geo} {own : String} {cc : ByteArray} {rm : Room} {nL : Nat} {ret : Option FieldType} {fin : Option Value → WD → Prop} {X : Nat → Nat → (Nat → Int32) → Prop} {P : PT} (hX : Gd l g own cc rm nL ret fin X P) {w : WD} {pc q : Nat} {lv : List (Option Value)} {st : List Value} {y : MethodName} {bytes : ByteArray} {maxL n index : Nat} {rt : Option FieldType} {rmc : Room} {w' : WD} {o : Nat} (hd : decode cc pc = .ok (.invokevirtual index, 3)) (hq : pc + 3 = q) (hM : MI y bytes maxL rt n) (hlk : Cond.methodLink own index y ∈ TB) (hrc : Rc o y.cls) (hrm : RmOk rm rmc maxL) (hn : 0 = n) (hcat : (st.map fun v => v.category).sum ≤ 8) (hC : CtV l g y bytes maxL rt rmc [.ref (g_ad g o 0)] w w') (kk : P w' q lv (st)) : P w pc lv (.ref (g_ad g o 0) :: st) := pw_callV hX (As := []) hd hq hM hlk hrc hrm hn rfl hcat hC (fun r w2 h => by obtain ⟨rfl, rfl⟩ := h; exact kk)
theorem pw_cvI1 {l : Launch} {g : Geo} {own : String} {cc : ByteArray} {rm : Room} {nL : Nat} {ret : Option FieldType} {fin : Option Value → WD → Prop} {X : Nat → Nat → (Nat → Int32) → Prop} {P : PT} (hX : Gd l g own cc rm nL ret fin X P) {w : WD} {pc q : Nat} {lv : List (Option Value)} {st : List Value} {y : MethodName} {bytes : ByteArray} {maxL n index : Nat} {rt : Option FieldType} {rmc : Room} {w' : WD} {r : Int32} {o : Nat} {v1 : Value} (hd : decode cc pc = .ok (.invokevirtual index, 3)) (hq : pc + 3 = q) (hM : MI y bytes maxL rt n) (hlk : Cond.methodLink own index y ∈ TB) (hrc : Rc o y.cls) (hrm : RmOk rm rmc maxL) (hn : 1 = n) (hcat : (st.map fun v => v.category).sum ≤ 8) (hC : CtI l g y bytes maxL rt rmc [.ref (g_ad g o 0), v1] w r w') (kk : P w' q lv (.int r :: st)) : P w pc lv (v1 :: .ref (g_ad g o 0) :: st) := pw_callV hX (As := [v1]) hd hq hM hlk hrc hrm hn rfl hcat hC (fun r w2 h => by obtain ⟨rfl, rfl⟩ := h; exact kk)
theorem pw_csI1 {l : Launch} {g : Geo} {own : String} {cc : ByteArray} {rm : Room} {nL : Nat} {ret : Option FieldType} {fin : Option Value → WD → Prop} {X : Nat → Nat → (Nat → Int32) → Prop} {P : PT} (hX : Gd l g own cc rm nL ret fin X P) {w : WD} {pc q : Nat} {lv : List (Option Value)} {st : List Value} {y : MethodName} {bytes : ByteArray} {maxL n index : Nat} {rt : Option FieldType} {rmc : Room} {w' : WD} {r : Int32} {v1 : Value} (hd : decode cc pc = .ok (.invokestatic index, 3)) (hq : pc + 3 = q) (hM : MS y bytes maxL rt n) (hlk : Cond.methodLink own index y ∈ TB) (hrm : RmOk rm rmc maxL) (hn : 1 = n) (hcat : (st.map fun v => v.category).sum ≤ 8) (hC : CtI l g y bytes maxL rt rmc [v1] w r w') (kk : P w' q lv (.int r :: st)) : P w pc lv (v1 :: st) := pw_callS hX (As := [v1]) hd hq hM hlk hrm hn rfl hcat hC (fun r w2 h => by obtain ⟨rfl, rfl⟩ := h; exact kk)
theorem pw_cnI1 {l : Launch} {g : Geo} {own : String} {cc : ByteArray} {rm : Room} {nL : Nat} {ret : Option FieldType} {fin : Option Value → WD → Prop} {X : Nat → Nat → (Nat → Int32) → Prop} {P : PT} (hX : Gd l g own cc rm nL ret fin X P) {w : WD} {pc q : Nat} {lv : List (Option Value)} {st : List Value} {y : MethodName} {bytes : ByteArray} {maxL n index : Nat} {rt : Option FieldType} {rmc : Room} {w' : WD} {r : Int32} {v1 : Value} {host : String} (hd : decode cc pc = .ok (.invokestatic index, 3)) (hq : pc + 3 = q) (hM : MS y bytes maxL rt n) (hlk : Cond.methodLinkNest own index y host ∈ NL) (hrm : RmOk rm rmc maxL) (hn : 1 = n) (hcat : (st.map fun v => v.category).sum ≤ 8) (hC : CtI l g y bytes maxL rt rmc [v1] w r w') (kk : P w' q lv (.int r :: st)) : P w pc lv (v1 :: st) := pw_callN hX (As := [v1]) hd hq hM hlk hrm hn rfl hcat hC (fun r w2 h => by obtain ⟨rfl, rfl⟩ := h; exact kk)
theorem pw_cvV1 {l : Launch} {g : Geo} {own : String} {cc : ByteArray} {rm : Room} {nL : Nat} {ret : Option FieldType} {fin : Option Value → WD → Prop} {X : Nat → Nat → (Nat → Int32) → Prop} {P : PT} (hX : Gd l g own cc rm nL ret fin X P) {w : WD} {pc q : Nat} {lv : List (Option Value)} {st : List Value} {y : MethodName} {bytes : ByteArray} {maxL n index : Nat} {rt : Option FieldType} {rmc : Room} {w' : WD} {o : Nat} {v1 : Value} (hd : decode cc pc = .ok (.invokevirtual index, 3)) (hq : pc + 3 = q) (hM : MI y bytes maxL rt n) (hlk : Cond.methodLink own index y ∈ TB) (hrc : Rc o y.cls) (hrm : RmOk rm rmc maxL) (hn : 1 = n) (hcat : (st.map fun v => v.category).sum ≤ 8) (hC : CtV l g y bytes maxL rt rmc [.ref (g_ad g o 0), v1] w w') (kk : P w' q lv (st)) : P w pc lv (v1 :: .ref (g_ad g o 0) :: st) := pw_callV hX (As := [v1]) hd hq hM hlk hrc hrm hn rfl hcat hC (fun r w2 h => by obtain ⟨rfl, rfl⟩ := h; exact kk)
theorem pw_csV1 {l : Launch} {g : Geo} {own : String} {cc : ByteArray} {rm : Room} {nL : Nat} {ret : Option FieldType} {fin : Option Value → WD → Prop} {X : Nat → Nat → (Nat → Int32) → Prop} {P : PT} (hX : Gd l g own cc rm nL ret fin X P) {w : WD} {pc q : Nat} {lv : List (Option Value)} {st : List Value} {y : MethodName} {bytes : ByteArray} {maxL n index : Nat} {rt : Option FieldType} {rmc : Room} {w' : WD} {v1 : Value} (hd : decode cc pc = .ok (.invokestatic index, 3)) (hq : pc + 3 = q) (hM : MS y bytes maxL rt n) (hlk : Cond.methodLink own index y ∈ TB) (hrm : RmOk rm rmc maxL) (hn : 1 = n) (hcat : (st.map fun v => v.category).sum ≤ 8) (hC : CtV l g y bytes maxL rt rmc [v1] w w') (kk : P w' q lv (st)) : P w pc lv (v1 :: st) := pw_callS hX (As := [v1]) hd hq hM hlk hrm hn rfl hcat hC (fun r w2 h => by obtain ⟨rfl, rfl⟩ := h; exact kk)
theorem pw_cnV1 {l : Launch} {g : Geo} {own : String} {cc : ByteArray} {rm : Room} {nL : Nat} {ret : Option FieldType} {fin : Option Value → WD → Prop} {X : Nat → Nat → (Nat → Int32) → Prop} {P : PT} (hX : Gd l g own cc rm nL ret fin X P) {w : WD} {pc q : Nat} {lv : List (Option Value)} {st : List Value} {y : MethodName} {bytes : ByteArray} {maxL n index : Nat} {rt : Option FieldType} {rmc : Room} {w' : WD} {v1 : Value} {host : String} (hd : decode cc pc = .ok (.invokestatic index, 3)) (hq : pc + 3 = q) (hM : MS y bytes maxL rt n) (hlk : Cond.methodLinkNest own index y host ∈ NL) (hrm : RmOk rm rmc maxL) (hn : 1 = n) (hcat : (st.map fun v => v.category).sum ≤ 8) (hC : CtV l g y bytes maxL rt rmc [v1] w w') (kk : P w' q lv (st)) : P w pc lv (v1 :: st) := pw_callN hX (As := [v1]) hd hq hM hlk hrm hn rfl hcat hC (fun r w2 h => by obtain ⟨rfl, rfl⟩ := h; exact kk)
theorem pw_cvI2 {l : Launch} {g : Geo} {own : String} {cc : ByteArray} {rm : Room} {nL : Nat} {ret : Option FieldType} {fin : Option Value → WD → Prop} {X : Nat → Nat → (Nat → Int32) → Prop} {P : PT} (hX : Gd l g own cc rm nL ret fin X P) {w : WD} {pc q : Nat} {lv : List (Option Value)} {st : List Value} {y : MethodName} {bytes : ByteArray} {maxL n index : Nat} {rt : Option FieldType} {rmc : Room} {w' : WD} {r : Int32} {o : Nat} {v1 v2 : Value} (hd : decode cc pc = .ok (.invokevirtual index, 3)) (hq : pc + 3 = q) (hM : MI y bytes maxL rt n) (hlk : Cond.methodLink own index y ∈ TB) (hrc : Rc o y.cls) (hrm : RmOk rm rmc maxL) (hn : 2 = n) (hcat : (st.map fun v => v.category).sum ≤ 8) (hC : CtI l g y bytes maxL rt rmc [.ref (g_ad g o 0), v1, v2] w r w') (kk : P w' q lv (.int r :: st)) : P w pc lv (v2 :: v1 :: .ref (g_ad g o 0) :: st) := pw_callV hX (As := [v1, v2]) hd hq hM hlk hrc hrm hn rfl hcat hC (fun r w2 h => by obtain ⟨rfl, rfl⟩ := h; exact kk)
theorem pw_csI2 {l : Launch} {g : Geo} {own : String} {cc : ByteArray} {rm : Room} {nL : Nat} {ret : Option FieldType} {fin : Option Value → WD → Prop} {X : Nat → Nat → (Nat → Int32) → Prop} {P : PT} (hX : Gd l g own cc rm nL ret fin X P) {w : WD} {pc q : Nat} {lv : List (Option Value)} {st : List Value} {y : MethodName} {bytes : ByteArray} {maxL n index : Nat} {rt : Option FieldType} {rmc : Room} {w' : WD} {r : Int32} {v1 v2 : Value} (hd : decode cc pc = .ok (.invokestatic index, 3)) (hq : pc + 3 = q) (hM : MS y bytes maxL rt n) (hlk : Cond.methodLink own index y ∈ TB) (hrm : RmOk rm rmc maxL) (hn : 2 = n) (hcat : (st.map fun v => v.category).sum ≤ 8) (hC : CtI l g y bytes maxL rt rmc [v1, v2] w r w') (kk : P w' q lv (.int r :: st)) : P w pc lv (v2 :: v1 :: st) := pw_callS hX (As := [v1, v2]) hd hq hM hlk hrm hn rfl hcat hC (fun r w2 h => by obtain ⟨rfl, rfl⟩ := h; exact kk)
theorem pw_cnI2 {l : Launch} {g : Geo} {own : String} {cc : ByteArray} {rm : Room} {nL : Nat} {ret : Option FieldType} {fin : Option Value → WD → Prop} {X : Nat → Nat → (Nat → Int32) → Prop} {P : PT} (hX : Gd l g own cc rm nL ret fin X P) {w : WD} {pc q : Nat} {lv : List (Option Value)} {st : List Value} {y : MethodName} {bytes : ByteArray} {maxL n index : Nat} {rt : Option FieldType} {rmc : Room} {w' : WD} {r : Int32} {v1 v2 : Value} {host : String} (hd : decode cc pc = .ok (.invokestatic index, 3)) (hq : pc + 3 = q) (hM : MS y bytes maxL rt n) (hlk : Cond.methodLinkNest own index y host ∈ NL) (hrm : RmOk rm rmc maxL) (hn : 2 = n) (hcat : (st.map fun v => v.category).sum ≤ 8) (hC : CtI l g y bytes maxL rt rmc [v1, v2] w r w') (kk : P w' q lv (.int r :: st)) : P w pc lv (v2 :: v1 :: st) := pw_callN hX (As := [v1, v2]) hd hq hM hlk hrm hn rfl hcat hC (fun r w2 h => by obtain ⟨rfl, rfl⟩ := h; exact kk)
theorem pw_cvV2 {l : Launch} {g : Geo} {own : String} {cc : ByteArray} {rm : Room} {nL : Nat} {ret : Option FieldType} {fin : Option Value → WD → Prop} {X : Nat → Nat → (Nat → Int32) → Prop} {P : PT} (hX : Gd l g own cc rm nL ret fin X P) {w : WD} {pc q : Nat} {lv : List (Option Value)} {st : List Value} {y : MethodName} {bytes : ByteArray} {maxL n index : Nat} {rt : Option FieldType} {rmc : Room} {w' : WD} {o : Nat} {v1 v2 : Value} (hd : decode cc pc = .ok (.invokevirtual index, 3)) (hq : pc + 3 = q) (hM : MI y bytes maxL rt n) (hlk : Cond.methodLink own index y ∈ TB) (hrc : Rc o y.cls) (hrm : RmOk rm rmc maxL) (hn : 2 = n) (hcat : (st.map fun v => v.category).sum ≤ 8) (hC : CtV l g y bytes maxL rt rmc [.ref (g_ad g o 0), v1, v2] w w') (kk : P w' q lv (st)) : P w pc lv (v2 :: v1 :: .ref (g_ad g o 0) :: st) := pw_callV hX (As := [v1, v2]) hd hq hM hlk hrc hrm hn rfl hcat hC (fun r w2 h => by obtain ⟨rfl, rfl⟩ := h; exact kk)
theorem pw_csV2 {l : Launch} {g : Geo} {own : String} {cc : ByteArray} {rm : Room} {nL : Nat} {ret : Option FieldType} {fin : Option Value → WD → Prop} {X : Nat → Nat → (Nat → Int32) → Prop} {P : PT} (hX : Gd l g own cc rm nL ret fin X P) {w : WD} {pc q : Nat} {lv : List (Option Value)} {st : List Value} {y : MethodName} {bytes : ByteArray} {maxL n index : Nat} {rt : Option FieldType} {rmc : Room} {w' : WD} {v1 v2 : Value} (hd : decode cc pc = .ok (.invokestatic index, 3)) (hq : pc + 3 = q) (hM : MS y bytes maxL rt n) (hlk : Cond.methodLink own index y ∈ TB) (hrm : RmOk rm rmc maxL) (hn : 2 = n) (hcat : (st.map fun v => v.category).sum ≤ 8) (hC : CtV l g y bytes maxL rt rmc [v1, v2] w w') (kk : P w' q lv (st)) : P w pc lv (v2 :: v1 :: st) := pw_callS hX (As := [v1, v2]) hd hq hM hlk hrm hn rfl hcat hC (fun r w2 h => by obtain ⟨rfl, rfl⟩ := h; exact kk)
theorem pw_cnV2 {l : Launch} {g : Geo} {own : String} {cc : ByteArray} {rm : Room} {nL : Nat} {ret : Option FieldType} {fin : Option Value → WD → Prop} {X : Nat → Nat → (Nat → Int32) → Prop} {P : PT} (hX : Gd l g own cc rm nL ret fin X P) {w : WD} {pc q : Nat} {lv : List (Option Value)} {st : List Value} {y : MethodName} {bytes : ByteArray} {maxL n index : Nat} {rt : Option FieldType} {rmc : Room} {w' : WD} {v1 v2 : Value} {host : String} (hd : decode cc pc = .ok (.invokestatic index, 3)) (hq : pc + 3 = q) (hM : MS y bytes maxL rt n) (hlk : Cond.methodLinkNest own index y host ∈ NL) (hrm : RmOk rm rmc maxL) (hn : 2 = n) (hcat : (st.map fun v => v.category).sum ≤ 8) (hC : CtV l g y bytes maxL rt rmc [v1, v2] w w') (kk : P w' q lv (st)) : P w pc lv (v2 :: v1 :: st) := pw_callN hX (As := [v1, v2]) hd hq hM hlk hrm hn rfl hcat hC (fun r w2 h => by obtain ⟨rfl, rfl⟩ := h; exact kk)
theorem pw_cvI3 {l : Launch} {g : Geo} {own : String} {cc : ByteArray} {rm : Room} {nL : Nat} {ret : Option FieldType} {fin : Option Value → WD → Prop} {X : Nat → Nat → (Nat → Int32) → Prop} {P : PT} (hX : Gd l g own cc rm nL ret fin X P) {w : WD} {pc q : Nat} {lv : List (Option Value)} {st : List Value} {y : MethodName} {bytes : ByteArray} {maxL n index : Nat} {rt : Option FieldType} {rmc : Room} {w' : WD} {r : Int32} {o : Nat} {v1 v2 v3 : Value} (hd : decode cc pc = .ok (.invokevirtual index, 3)) (hq : pc + 3 = q) (hM : MI y bytes maxL rt n) (hlk : Cond.methodLink own index y ∈ TB) (hrc : Rc o y.cls) (hrm : RmOk rm rmc maxL) (hn : 3 = n) (hcat : (st.map fun v => v.category).sum ≤ 8) (hC : CtI l g y bytes maxL rt rmc [.ref (g_ad g o 0), v1, v2, v3] w r w') (kk : P w' q lv (.int r :: st)) : P w pc lv (v3 :: v2 :: v1 :: .ref (g_ad g o 0) :: st) := pw_callV hX (As := [v1, v2, v3]) hd hq hM hlk hrc hrm hn rfl hcat hC (fun r w2 h => by obtain ⟨rfl, rfl⟩ := h; exact kk)
theorem pw_csI3 {l : Launch} {g : Geo} {own : String} {cc : ByteArray} {rm : Room} {nL : Nat} {ret : Option FieldType} {fin : Option Value → WD → Prop} {X : Nat → Nat → (Nat → Int32) → Prop} {P : PT} (hX : Gd l g own cc rm nL ret fin X P) {w : WD} {pc q : Nat} {lv : List (Option Value)} {st : List Value} {y : MethodName} {bytes : ByteArray} {maxL n index : Nat} {rt : Option FieldType} {rmc : Room} {w' : WD} {r : Int32} {v1 v2 v3 : Value} (hd : decode cc pc = .ok (.invokestatic index, 3)) (hq : pc + 3 = q) (hM : MS y bytes maxL rt n) (hlk : Cond.methodLink own index y ∈ TB) (hrm : RmOk rm rmc maxL) (hn : 3 = n) (hcat : (st.map fun v => v.category).sum ≤ 8) (hC : CtI l g y bytes maxL rt rmc [v1, v2, v3] w r w') (kk : P w' q lv (.int r :: st)) : P w pc lv (v3 :: v2 :: v1 :: st) := pw_callS hX (As := [v1, v2, v3]) hd hq hM hlk hrm hn rfl hcat hC (fun r w2 h => by obtain ⟨rfl, rfl⟩ := h; exact kk)
theorem pw_cnI3 {l : Launch} {g : Geo} {own : String} {cc : ByteArray} {rm : Room} {nL : Nat} {ret : Option FieldType} {fin : Option Value → WD → Prop} {X : Nat → Nat → (Nat → Int32) → Prop} {P : PT} (hX : Gd l g own cc rm nL ret fin X P) {w : WD} {pc q : Nat} {lv : List (Option Value)} {st : List Value} {y : MethodName} {bytes : ByteArray} {maxL n index : Nat} {rt : Option FieldType} {rmc : Room} {w' : WD} {r : Int32} {v1 v2 v3 : Value} {host : String} (hd : decode cc pc = .ok (.invokestatic index, 3)) (hq : pc + 3 = q) (hM : MS y bytes maxL rt n) (hlk : Cond.methodLinkNest own index y host ∈ NL) (hrm : RmOk rm rmc maxL) (hn : 3 = n) (hcat : (st.map fun v => v.category).sum ≤ 8) (hC : CtI l g y bytes maxL rt rmc [v1, v2, v3] w r w') (kk : P w' q lv (.int r :: st)) : P w pc lv (v3 :: v2 :: v1 :: st) := pw_callN hX (As := [v1, v2, v3]) hd hq hM hlk hrm hn rfl hcat hC (fun r w2 h => by obtain ⟨rfl, rfl⟩ := h; exact kk)
theorem pw_cvV3 {l : Launch} {g : Geo} {own : String} {cc : ByteArray} {rm : Room} {nL : Nat} {ret : Option FieldType} {fin : Option Value → WD → Prop} {X : Nat → Nat → (Nat → Int32) → Prop} {P : PT} (hX : Gd l g own cc rm nL ret fin X P) {w : WD} {pc q : Nat} {lv : List (Option Value)} {st : List Value} {y : MethodName} {bytes : ByteArray} {maxL n index : Nat} {rt : Option FieldType} {rmc : Room} {w' : WD} {o : Nat} {v1 v2 v3 : Value} (hd : decode cc pc = .ok (.invokevirtual index, 3)) (hq : pc + 3 = q) (hM : MI y bytes maxL rt n) (hlk : Cond.methodLink own index y ∈ TB) (hrc : Rc o y.cls) (hrm : RmOk rm rmc maxL) (hn : 3 = n) (hcat : (st.map fun v => v.category).sum ≤ 8) (hC : CtV l g y bytes maxL rt rmc [.ref (g_ad g o 0), v1, v2, v3] w w') (kk : P w' q lv (st)) : P w pc lv (v3 :: v2 :: v1 :: .ref (g_ad g o 0) :: st) := pw_callV hX (As := [v1, v2, v3]) hd hq hM hlk hrc hrm hn rfl hcat hC (fun r w2 h => by obtain ⟨rfl, rfl⟩ := h; exact kk)
theorem pw_csV3 {l : Launch} {g : Geo} {own : String} {cc : ByteArray} {rm : Room} {nL : Nat} {ret : Option FieldType} {fin : Option Value → WD → Prop} {X : Nat → Nat → (Nat → Int32) → Prop} {P : PT} (hX : Gd l g own cc rm nL ret fin X P) {w : WD} {pc q : Nat} {lv : List (Option Value)} {st : List Value} {y : MethodName} {bytes : ByteArray} {maxL n index : Nat} {rt : Option FieldType} {rmc : Room} {w' : WD} {v1 v2 v3 : Value} (hd : decode cc pc = .ok (.invokestatic index, 3)) (hq : pc + 3 = q) (hM : MS y bytes maxL rt n) (hlk : Cond.methodLink own index y ∈ TB) (hrm : RmOk rm rmc maxL) (hn : 3 = n) (hcat : (st.map fun v => v.category).sum ≤ 8) (hC : CtV l g y bytes maxL rt rmc [v1, v2, v3] w w') (kk : P w' q lv (st)) : P w pc lv (v3 :: v2 :: v1 :: st) := pw_callS hX (As := [v1, v2, v3]) hd hq hM hlk hrm hn rfl hcat hC (fun r w2 h => by obtain ⟨rfl, rfl⟩ := h; exact kk)
theorem pw_cnV3 {l : Launch} {g : Geo} {own : String} {cc : ByteArray} {rm : Room} {nL : Nat} {ret : Option FieldType} {fin : Option Value → WD → Prop} {X : Nat → Nat → (Nat → Int32) → Prop} {P : PT} (hX : Gd l g own cc rm nL ret fin X P) {w : WD} {pc q : Nat} {lv : List (Option Value)} {st : List Value} {y : MethodName} {bytes : ByteArray} {maxL n index : Nat} {rt : Option FieldType} {rmc : Room} {w' : WD} {v1 v2 v3 : Value} {host : String} (hd : decode cc pc = .ok (.invokestatic index, 3)) (hq : pc + 3 = q) (hM : MS y bytes maxL rt n) (hlk : Cond.methodLinkNest own index y host ∈ NL) (hrm : RmOk rm rmc maxL) (hn : 3 = n) (hcat : (st.map fun v => v.category).sum ≤ 8) (hC : CtV l g y bytes maxL rt rmc [v1, v2, v3] w w') (kk : P w' q lv (st)) : P w pc lv (v3 :: v2 :: v1 :: st) := pw_callN hX (As := [v1, v2, v3]) hd hq hM hlk hrm hn rfl hcat hC (fun r w2 h => by obtain ⟨rfl, rfl⟩ := h; exact kk)
theorem pw_cvI4 {l : Launch} {g : Geo} {own : String} {cc : ByteArray} {rm : Room} {nL : Nat} {ret : Option FieldType} {fin : Option Value → WD → Prop} {X : Nat → Nat → (Nat → Int32) → Prop} {P : PT} (hX : Gd l g own cc rm nL ret fin X P) {w : WD} {pc q : Nat} {lv : List (Option Value)} {st : List Value} {y : MethodName} {bytes : ByteArray} {maxL n index : Nat} {rt : Option FieldType} {rmc : Room} {w' : WD} {r : Int32} {o : Nat} {v1 v2 v3 v4 : Value} (hd : decode cc pc = .ok (.invokevirtual index, 3)) (hq : pc + 3 = q) (hM : MI y bytes maxL rt n) (hlk : Cond.methodLink own index y ∈ TB) (hrc : Rc o y.cls) (hrm : RmOk rm rmc maxL) (hn : 4 = n) (hcat : (st.map fun v => v.category).sum ≤ 8) (hC : CtI l g y bytes maxL rt rmc [.ref (g_ad g o 0), v1, v2, v3, v4] w r w') (kk : P w' q lv (.int r :: st)) : P w pc lv (v4 :: v3 :: v2 :: v1 :: .ref (g_ad g o 0) :: st) := pw_callV hX (As := [v1, v2, v3, v4]) hd hq hM hlk hrc hrm hn rfl hcat hC (fun r w2 h => by obtain ⟨rfl, rfl⟩ := h; exact kk)
theorem pw_csI4 {l : Launch} {g : Geo} {own : String} {cc : ByteArray} {rm : Room} {nL : Nat} {ret : Option FieldType} {fin : Option Value → WD → Prop} {X : Nat → Nat → (Nat → Int32) → Prop} {P : PT} (hX : Gd l g own cc rm nL ret fin X P) {w : WD} {pc q : Nat} {lv : List (Option Value)} {st : List Value} {y : MethodName} {bytes : ByteArray} {maxL n index : Nat} {rt : Option FieldType} {rmc : Room} {w' : WD} {r : Int32} {v1 v2 v3 v4 : Value} (hd : decode cc pc = .ok (.invokestatic index, 3)) (hq : pc + 3 = q) (hM : MS y bytes maxL rt n) (hlk : Cond.methodLink own index y ∈ TB) (hrm : RmOk rm rmc maxL) (hn : 4 = n) (hcat : (st.map fun v => v.category).sum ≤ 8) (hC : CtI l g y bytes maxL rt rmc [v1, v2, v3, v4] w r w') (kk : P w' q lv (.int r :: st)) : P w pc lv (v4 :: v3 :: v2 :: v1 :: st) := pw_callS hX (As := [v1, v2, v3, v4]) hd hq hM hlk hrm hn rfl hcat hC (fun r w2 h => by obtain ⟨rfl, rfl⟩ := h; exact kk)
theorem pw_cnI4 {l : Launch} {g : Geo} {own : String} {cc : ByteArray} {rm : Room} {nL : Nat} {ret : Option FieldType} {fin : Option Value → WD → Prop} {X : Nat → Nat → (Nat → Int32) → Prop} {P : PT} (hX : Gd l g own cc rm nL ret fin X P) {w : WD} {pc q : Nat} {lv : List (Option Value)} {st : List Value} {y : MethodName} {bytes : ByteArray} {maxL n index : Nat} {rt : Option FieldType} {rmc : Room} {w' : WD} {r : Int32} {v1 v2 v3 v4 : Value} {host : String} (hd : decode cc pc = .ok (.invokestatic index, 3)) (hq : pc + 3 = q) (hM : MS y bytes maxL rt n) (hlk : Cond.methodLinkNest own index y host ∈ NL) (hrm : RmOk rm rmc maxL) (hn : 4 = n) (hcat : (st.map fun v => v.category).sum ≤ 8) (hC : CtI l g y bytes maxL rt rmc [v1, v2, v3, v4] w r w') (kk : P w' q lv (.int r :: st)) : P w pc lv (v4 :: v3 :: v2 :: v1 :: st) := pw_callN hX (As := [v1, v2, v3, v4]) hd hq hM hlk hrm hn rfl hcat hC (fun r w2 h => by obtain ⟨rfl, rfl⟩ := h; exact kk)
theorem pw_cvV4 {l : Launch} {g : Geo} {own : String} {cc : ByteArray} {rm : Room} {nL : Nat} {ret : Option FieldType} {fin : Option Value → WD → Prop} {X : Nat → Nat → (Nat → Int32) → Prop} {P : PT} (hX : Gd l g own cc rm nL ret fin X P) {w : WD} {pc q : Nat} {lv : List (Option Value)} {st : List Value} {y : MethodName} {bytes : ByteArray} {maxL n index : Nat} {rt : Option FieldType} {rmc : Room} {w' : WD} {o : Nat} {v1 v2 v3 v4 : Value} (hd : decode cc pc = .ok (.invokevirtual index, 3)) (hq : pc + 3 = q) (hM : MI y bytes maxL rt n) (hlk : Cond.methodLink own index y ∈ TB) (hrc : Rc o y.cls) (hrm : RmOk rm rmc maxL) (hn : 4 = n) (hcat : (st.map fun v => v.category).sum ≤ 8) (hC : CtV l g y bytes maxL rt rmc [.ref (g_ad g o 0), v1, v2, v3, v4] w w') (kk : P w' q lv (st)) : P w pc lv (v4 :: v3 :: v2 :: v1 :: .ref (g_ad g o 0) :: st) := pw_callV hX (As := [v1, v2, v3, v4]) hd hq hM hlk hrc hrm hn rfl hcat hC (fun r w2 h => by obtain ⟨rfl, rfl⟩ := h; exact kk)
theorem pw_csV4 {l : Launch} {g : Geo} {own : String} {cc : ByteArray} {rm : Room} {nL : Nat} {ret : Option FieldType} {fin : Option Value → WD → Prop} {X : Nat → Nat → (Nat → Int32) → Prop} {P : PT} (hX : Gd l g own cc rm nL ret fin X P) {w : WD} {pc q : Nat} {lv : List (Option Value)} {st : List Value} {y : MethodName} {bytes : ByteArray} {maxL n index : Nat} {rt : Option FieldType} {rmc : Room} {w' : WD} {v1 v2 v3 v4 : Value} (hd : decode cc pc = .ok (.invokestatic index, 3)) (hq : pc + 3 = q) (hM : MS y bytes maxL rt n) (hlk : Cond.methodLink own index y ∈ TB) (hrm : RmOk rm rmc maxL) (hn : 4 = n) (hcat : (st.map fun v => v.category).sum ≤ 8) (hC : CtV l g y bytes maxL rt rmc [v1, v2, v3, v4] w w') (kk : P w' q lv (st)) : P w pc lv (v4 :: v3 :: v2 :: v1 :: st) := pw_callS hX (As := [v1, v2, v3, v4]) hd hq hM hlk hrm hn rfl hcat hC (fun r w2 h => by obtain ⟨rfl, rfl⟩ := h; exact kk)
theorem pw_cnV4 {l : Launch} {g : Geo} {own : String} {cc : ByteArray} {rm : Room} {nL : Nat} {ret : Option FieldType} {fin : Option Value → WD → Prop} {X : Nat → Nat → (Nat → Int32) → Prop} {P : PT} (hX : Gd l g own cc rm nL ret fin X P) {w : WD} {pc q : Nat} {lv : List (Option Value)} {st : List Value} {y : MethodName} {bytes : ByteArray} {maxL n index : Nat} {rt : Option FieldType} {rmc : Room} {w' : WD} {v1 v2 v3 v4 : Value} {host : String} (hd : decode cc pc = .ok (.invokestatic index, 3)) (hq : pc + 3 = q) (hM : MS y bytes maxL rt n) (hlk : Cond.methodLinkNest own index y host ∈ NL) (hrm : RmOk rm rmc maxL) (hn : 4 = n) (hcat : (st.map fun v => v.category).sum ≤ 8) (hC : CtV l g y bytes maxL rt rmc [v1, v2, v3, v4] w w') (kk : P w' q lv (st)) : P w pc lv (v4 :: v3 :: v2 :: v1 :: st) := pw_callN hX (As := [v1, v2, v3, v4]) hd hq hM hlk hrm hn rfl hcat hC (fun r w2 h => by obtain ⟨rfl, rfl⟩ := h; exact kk)
theorem pw_cvI5 {l : Launch} {g : Geo} {own : String} {cc : ByteArray} {rm : Room} {nL : Nat} {ret : Option FieldType} {fin : Option Value → WD → Prop} {X : Nat → Nat → (Nat → Int32) → Prop} {P : PT} (hX : Gd l g own cc rm nL ret fin X P) {w : WD} {pc q : Nat} {lv : List (Option Value)} {st : List Value} {y : MethodName} {bytes : ByteArray} {maxL n index : Nat} {rt : Option FieldType} {rmc : Room} {w' : WD} {r : Int32} {o : Nat} {v1 v2 v3 v4 v5 : Value} (hd : decode cc pc = .ok (.invokevirtual index, 3)) (hq : pc + 3 = q) (hM : MI y bytes maxL rt n) (hlk : Cond.methodLink own index y ∈ TB) (hrc : Rc o y.cls) (hrm : RmOk rm rmc maxL) (hn : 5 = n) (hcat : (st.map fun v => v.category).sum ≤ 8) (hC : CtI l g y bytes maxL rt rmc [.ref (g_ad g o 0), v1, v2, v3, v4, v5] w r w') (kk : P w' q lv (.int r :: st)) : P w pc lv (v5 :: v4 :: v3 :: v2 :: v1 :: .ref (g_ad g o 0) :: st) := pw_callV hX (As := [v1, v2, v3, v4, v5]) hd hq hM hlk hrc hrm hn rfl hcat hC (fun r w2 h => by obtain ⟨rfl, rfl⟩ := h; exact kk)
theorem pw_cvV5 {l : Launch} {g : Geo} {own : String} {cc : ByteArray} {rm : Room} {nL : Nat} {ret : Option FieldType} {fin : Option Value → WD → Prop} {X : Nat → Nat → (Nat → Int32) → Prop} {P : PT} (hX : Gd l g own cc rm nL ret fin X P) {w : WD} {pc q : Nat} {lv : List (Option Value)} {st : List Value} {y : MethodName} {bytes : ByteArray} {maxL n index : Nat} {rt : Option FieldType} {rmc : Room} {w' : WD} {o : Nat} {v1 v2 v3 v4 v5 : Value} (hd : decode cc pc = .ok (.invokevirtual index, 3)) (hq : pc + 3 = q) (hM : MI y bytes maxL rt n) (hlk : Cond.methodLink own index y ∈ TB) (hrc : Rc o y.cls) (hrm : RmOk rm rmc maxL) (hn : 5 = n) (hcat : (st.map fun v => v.category).sum ≤ 8) (hC : CtV l g y bytes maxL rt rmc [.ref (g_ad g o 0), v1, v2, v3, v4, v5] w w') (kk : P w' q lv (st)) : P w pc lv (v5 :: v4 :: v3 :: v2 :: v1 :: .ref (g_ad g o 0) :: st) := pw_callV hX (As := [v1, v2, v3, v4, v5]) hd hq hM hlk hrc hrm hn rfl hcat hC (fun r w2 h => by obtain ⟨rfl, rfl⟩ := h; exact kk)
theorem pw_max {l : Launch} {g : Geo} {own : String} {cc : ByteArray} {rm : Room} {nL : Nat} {ret : Option FieldType} {fin : Option Value → WD → Prop} {X : Nat → Nat → (Nat → Int32) → Prop} {P : PT} (hX : Gd l g own cc rm nL ret fin X P) {w : WD} {pc q : Nat} {lv : List (Option Value)} {st : List Value} {index : Nat} {x y : Int32} (hd : decode cc pc = .ok (.invokestatic index, 3)) (hq : pc + 3 = q) (hlk : Cond.methodLink own index Lib.Math.max.name ∈ TB) (h1 : Cond.static Lib.Math.max.name ∈ TB) (h2 : Cond.initialized "java/lang/Math" ∈ TB) (h3 : Cond.code Lib.Math.max.name Lib.Math.max.code 2 (some .int) ∈ TB) (hfr : 1 ≤ rm.frames) (hlo : (st.map fun v => v.category).sum + 13 ≤ rm.locals) (kk : P w q lv (.int (if x < y then y else x) :: st)) : P w pc lv (.int y :: .int x :: st) := by
  obtain ⟨p, e, s, m, args, below, meth, c, cells, slots, Q, A, rfl, hx, hb, hml, hown, hTB, hNL, hK, hG, hcs, hScr, hri, hrv⟩ := hX
  subst hq
  intro H locs ls hP hS hl
  exact va_mmax hx hb (hml.trans hl.1.symm) hown (hTB _ hlk) (hTB _ h1) (hTB _ h2) (hTB _ h3) hfr hlo hcs.1 hcs.2 hd (kk H locs ls hP hS hl)
theorem cpy_I (f g : Nat → Nat) (a b n : Nat) : va_cpy (fun j => nI (f j)) (fun j => nI (g j)) a b n = fun j => nI (va_cpy f g a b n j) := by
  funext j
  simp only [va_cpy]
  split <;> rfl
theorem pw_copy {l : Launch} {g : Geo} {own : String} {cc : ByteArray} {rm : Room} {nL : Nat} {ret : Option FieldType} {fin : Option Value → WD → Prop} {X : Nat → Nat → (Nat → Int32) → Prop} {P : PT} (hX : Gd l g own cc rm nL ret fin X P) {w : WD} {pc q : Nat} {lv : List (Option Value)} {st : List Value} {index : Nat} {o1 k1 o2 k2 n : Nat} {i0 i1 i2 : Int32} (hd : decode cc pc = .ok (.invokestatic index, 3)) (hq : pc + 3 = q) (hlk : Cond.methodLink own index arraycopyName ∈ TB) (h1 : Cond.native arraycopyName ∈ TB) (h2 : Cond.static arraycopyName ∈ TB) (h3 : Cond.initialized "java/lang/System" ∈ TB)
    (hz1 : (o1, k1) ∈ g_dm) (hk1 : k1 ≠ 0) (h81 : o1 ≠ 8) (hc1 : g_ch o1 k1 = false) (hl1 : g_ln o1 k1 = n) (hz2 : (o2, k2) ∈ g_dm) (hk2 : k2 ≠ 0) (h82 : o2 ≠ 8) (hc2 : g_ch o2 k2 = false) (hl2 : g_ln o2 k2 = n) (hi0 : i0 = nI 0) (hi1 : i1 = nI 0) (hi2 : i2 = nI n)
    (hfr : 1 ≤ rm.frames) (hlo : (st.map fun v => v.category).sum + (nativeFrameWords "java/lang/System" "arraycopy" 5 + 11) ≤ rm.locals) (kk : P (wA w o2 k2 (w.1 o1 k1)) q lv st) : P w pc lv (.int i2 :: .int i1 :: .ref (g_ad g o2 k2) :: .int i0 :: .ref (g_ad g o1 k1) :: st) := by
  obtain ⟨p, e, s, m, args, below, meth, c, cells, slots, Q, A, rfl, hx, hb, hml, hown, hTB, hNL, hK, hG, hcs, hScr, hri, hrv⟩ := hX
  subst hq hi0 hi1 hi2
  intro H locs ls hP hS hl
  obtain ⟨j1, -, hj1⟩ := wl_a g w hz1 hk1 h81
  obtain ⟨j2, hi2, hj2⟩ := wl_a g w hz2 hk2 h82
  rw [hc1] at hj1
  rw [hc2] at hj2
  rw [hl1] at hj1
  rw [hl2] at hj2
  have hn : n ≤ 3252 := hl1 ▸ g_ln_le o1 k1
  have c0 : (nI 0).toNatClampNeg = 0 := nIc (by decide)
  have cn : (nI n).toNatClampNeg = n := nI_clamp (by omega)
  refine va_copyi hx hb (hml.trans hl.1.symm) hown (hTB _ hlk) (hTB _ h1) (hTB _ h2) (hTB _ h3) hK hP (g_D hG.1 hG.2 w) hS j1 j2 0 0 hj1 hj2 rfl rfl rfl (nI_pos (by decide)) (nI_pos (by decide)) (nI_pos (by omega)) (by rw [c0, cn]; omega) (by rw [c0, cn]; omega) (fun i _ => rfl) hfr hlo hd (fun H1 locs1 hP1 _ hS1 => kk H1 locs1 ls ?_ hS1 hl)
  rw [c0, cn, cpy_I] at hP1
  have e := wl_set (g := g) (w := w) (w' := wA w o2 k2 (va_cpy (w.1 o1 k1) (w.1 o2 k2) 0 0 n)) (q := (o2, k2)) hi2 (fun o' k' _ h => cell_wA h) (e := .inl (_, n, .inl (fun j => nI (va_cpy (w.1 o1 k1) (w.1 o2 k2) 0 0 n j)))) (by simp only [g_cell, if_neg hk2, if_neg h82, wA_s, hc2, hl2]; rfl)
  have hP2 : va_P g.1 vwCl (g_wl g (wA w o2 k2 (va_cpy (w.1 o1 k1) (w.1 o2 k2) 0 0 n))) H1 := by rw [← e]; exact hP1
  refine weq_P (w := wA w o2 k2 (va_cpy (w.1 o1 k1) (w.1 o2 k2) 0 0 n)) ⟨fun o k j hz hj => ?_, fun _ _ => rfl⟩ hP2
  by_cases h : o = o2 ∧ k = k2
  · obtain ⟨rfl, rfl⟩ := h
    rw [wA_s, wA_s]
    rw [if_neg hk2, hl2] at hj
    rw [pk_cpy_in (Nat.zero_le _) (by omega)]
    simp
  · rw [wA_n _ _ h, wA_n _ _ h]
end
section
/-- object o's parts are V -/
def wO (w : WD) (o : Nat) (V : Nat → Nat → Nat) : WD := (fun a => if a = o then V else w.1 a, w.2)
def vA (V : Nat → Nat → Nat) (k : Nat) (f : Nat → Nat) : Nat → Nat → Nat := fun b => if b = k then f else V b
def vU (V : Nat → Nat → Nat) (k i x : Nat) : Nat → Nat → Nat := vA V k (upN (V k) i x)
theorem wO_s (w : WD) (o : Nat) (V : Nat → Nat → Nat) : (wO w o V).1 o = V := by simp [wO]
theorem wO_n (w : WD) {o a : Nat} (V : Nat → Nat → Nat) (h : a ≠ o) : (wO w o V).1 a = w.1 a := by simp [wO, h]
theorem wO_2 (w : WD) (o : Nat) (V : Nat → Nat → Nat) : (wO w o V).2 = w.2 := rfl
theorem wO_id (w : WD) (o : Nat) : wO w o (w.1 o) = w := by
  refine Prod.ext (funext fun a => ?_) rfl
  by_cases h : a = o
  · subst h; simp [wO]
  · simp [wO, h]
theorem wO_wO (w : WD) (o : Nat) (V V' : Nat → Nat → Nat) : wO (wO w o V) o V' = wO w o V' := by
  refine Prod.ext (funext fun a => ?_) rfl
  by_cases h : a = o
  · subst h; simp [wO]
  · simp [wO, h]
theorem wO_comm (w : WD) {o o' : Nat} (V V' : Nat → Nat → Nat) (h : o ≠ o') : wO (wO w o V) o' V' = wO (wO w o' V') o V := by
  refine Prod.ext (funext fun a => ?_) rfl
  by_cases h1 : a = o
  · subst h1; simp [wO, h]
  · by_cases h2 : a = o'
    · subst h2; simp [wO, h1]
    · simp [wO, h1, h2]
theorem vA_s (V : Nat → Nat → Nat) (k : Nat) (f : Nat → Nat) : vA V k f k = f := by simp [vA]
theorem vA_n (V : Nat → Nat → Nat) {k b : Nat} (f : Nat → Nat) (h : b ≠ k) : vA V k f b = V b := by simp [vA, h]
theorem vA_vA (V : Nat → Nat → Nat) (k : Nat) (f f' : Nat → Nat) : vA (vA V k f) k f' = vA V k f' := by
  funext b
  by_cases h : b = k
  · subst h; simp [vA]
  · simp [vA, h]
theorem vA_id (V : Nat → Nat → Nat) (k : Nat) : vA V k (V k) = V := by
  funext b
  by_cases h : b = k
  · subst h; simp [vA]
  · simp [vA, h]
theorem vU_s (V : Nat → Nat → Nat) (k i x : Nat) : vU V k i x k = upN (V k) i x := by simp [vU, vA]
theorem vU_n (V : Nat → Nat → Nat) {k b : Nat} (i x : Nat) (h : b ≠ k) : vU V k i x b = V b := by simp [vU, vA, h]
theorem wA_wO (w : WD) (o k : Nat) (V : Nat → Nat → Nat) (f : Nat → Nat) : wA (wO w o V) o k f = wO w o (vA V k f) := by
  refine Prod.ext (funext fun a => funext fun b => ?_) rfl
  by_cases h : a = o
  · subst h
    by_cases hb : b = k
    · subst hb; simp [wA, wO, vA]
    · simp [wA, wO, vA, hb]
  · simp [wA, wO, h]
def fsVF (g : Geo) (o : Nat) (V : Nat → Nat → Nat) : List Value := [.int (nI (V 0 0)), .int (nI (V 0 1)), .int (nI (V 0 2)), .int (nI (V 0 3)), .ref (g_ad g o 1), .ref (g_ad g o 2), .ref (g_ad g o 3), .ref (g_ad g o 4), .ref (g_ad g o 5), .ref (g_ad g o 6), .ref (g_ad g o 7), .ref (g_ad g o 8), .ref (g_ad g o 9), .ref (g_ad g o 10), .ref (g_ad g o 11)]
theorem fsVF_e (g : Geo) (w : WD) (o : Nat) (V : Nat → Nat → Nat) : fsV g (wO w o V) o = fsVF g o V := by simp [fsV, fsVF, wO_s]
def fsMF (g : Geo) (V : Nat → Nat → Nat) : List Value := [.ref (g_ad g 9 1), .ref (g_ad g 9 2), .ref (g_ad g 9 3), .ref (g_ad g 9 4), .int (nI (V 0 4)), .ref (g_ad g 9 5), .int (nI (V 0 6)), .int (nI (V 0 7)), .int (nI (V 0 8)), .ref (g_ad g 9 6)]
theorem fsMF_e (g : Geo) (w : WD) (V : Nat → Nat → Nat) : fsM g (wO w 9 V) = fsMF g V := by simp [fsM, fsMF, wO_s]
theorem pw_getVF {l : Launch} {g : Geo} {own : String} {cc : ByteArray} {rm : Room} {nL : Nat} {ret : Option FieldType} {fin : Option Value → WD → Prop} {X : Nat → Nat → (Nat → Int32) → Prop} {P : PT} (hX : Gd l g own cc rm nL ret fin X P) {w : WD} {pc q : Nat} {lv : List (Option Value)} {st : List Value} {V : Nat → Nat → Nat} {o : Nat} (ho : o < 7) (k : Nat) {v : Value} {index : Nat} (hk : k < 15) (hlink : Cond.fieldLink own index (TX2 k).1 (TX2 k).2.1 (TX2 k).2.2.1 ∈ TB) (hv : (fsVF g o V)[k]? = some v) (hd : decode cc pc = .ok (.getfield index, 3)) (hq : pc + 3 = q) (kk : P (wO w o V) q lv (v :: st)) : P (wO w o V) pc lv (.ref (g_ad g o 0) :: st) := pw_getV hX ho k hk hlink (by rw [fsVF_e]; exact hv) hd hq kk
theorem pw_getMF {l : Launch} {g : Geo} {own : String} {cc : ByteArray} {rm : Room} {nL : Nat} {ret : Option FieldType} {fin : Option Value → WD → Prop} {X : Nat → Nat → (Nat → Int32) → Prop} {P : PT} (hX : Gd l g own cc rm nL ret fin X P) {w : WD} {pc q : Nat} {lv : List (Option Value)} {st : List Value} {V : Nat → Nat → Nat} (k : Nat) {v : Value} {index : Nat} (hk : k < 10) (hlink : Cond.fieldLink own index (TX4 k).1 (TX4 k).2.1 (TX4 k).2.2.1 ∈ TB) (hv : (fsMF g V)[k]? = some v) (hd : decode cc pc = .ok (.getfield index, 3)) (hq : pc + 3 = q) (kk : P (wO w 9 V) q lv (v :: st)) : P (wO w 9 V) pc lv (.ref (g_ad g 9 0) :: st) := pw_getM hX k hk hlink (by rw [fsMF_e]; exact hv) hd hq kk
theorem pw_putVF {l : Launch} {g : Geo} {own : String} {cc : ByteArray} {rm : Room} {nL : Nat} {ret : Option FieldType} {fin : Option Value → WD → Prop} {X : Nat → Nat → (Nat → Int32) → Prop} {P : PT} (hX : Gd l g own cc rm nL ret fin X P) {w : WD} {pc q : Nat} {lv : List (Option Value)} {st : List Value} {V : Nat → Nat → Nat} {o : Nat} (ho : o < 7) (k : Nat) {x index : Nat} (hk : k < 4) (hlink : Cond.fieldLink own index (TX2 k).1 (TX2 k).2.1 (TX2 k).2.2.1 ∈ TB) (hd : decode cc pc = .ok (.putfield index, 3)) (hq : pc + 3 = q) (kk : P (wO w o (vU V 0 k x)) q lv st) : P (wO w o V) pc lv (.int (nI x) :: .ref (g_ad g o 0) :: st) := pw_putV hX ho k hk hlink hd hq (by rw [wA_wO, wO_s]; exact kk)
theorem pw_putMF {l : Launch} {g : Geo} {own : String} {cc : ByteArray} {rm : Room} {nL : Nat} {ret : Option FieldType} {fin : Option Value → WD → Prop} {X : Nat → Nat → (Nat → Int32) → Prop} {P : PT} (hX : Gd l g own cc rm nL ret fin X P) {w : WD} {pc q : Nat} {lv : List (Option Value)} {st : List Value} {V : Nat → Nat → Nat} (k : Nat) {x index : Nat} (hk : k = 4 ∨ k = 6 ∨ k = 7 ∨ k = 8) (hlink : Cond.fieldLink own index (TX4 k).1 (TX4 k).2.1 (TX4 k).2.2.1 ∈ TB) (hd : decode cc pc = .ok (.putfield index, 3)) (hq : pc + 3 = q) (kk : P (wO w 9 (vU V 0 k x)) q lv st) : P (wO w 9 V) pc lv (.int (nI x) :: .ref (g_ad g 9 0) :: st) := pw_putM hX k hk hlink hd hq (by rw [wA_wO, wO_s]; exact kk)
theorem pw_ialdVF {l : Launch} {g : Geo} {own : String} {cc : ByteArray} {rm : Room} {nL : Nat} {ret : Option FieldType} {fin : Option Value → WD → Prop} {X : Nat → Nat → (Nat → Int32) → Prop} {P : PT} (hX : Gd l g own cc rm nL ret fin X P) {w : WD} {pc q : Nat} {lv : List (Option Value)} {st : List Value} {V : Nat → Nat → Nat} {o : Nat} (ho : o < 7) (k : Nat) {i : Nat} (hk : 1 ≤ k ∧ k < 12) (hlt : i < lnV k) (hd : decode cc pc = .ok (.iaload, 1)) (hq : pc + 1 = q) (kk : P (wO w o V) q lv (.int (nI (V k i)) :: st)) : P (wO w o V) pc lv (.int (nI i) :: .ref (g_ad g o k) :: st) := pw_ialdV hX ho k hk hlt hd hq (by rw [wO_s]; exact kk)
theorem pw_iastVF {l : Launch} {g : Geo} {own : String} {cc : ByteArray} {rm : Room} {nL : Nat} {ret : Option FieldType} {fin : Option Value → WD → Prop} {X : Nat → Nat → (Nat → Int32) → Prop} {P : PT} (hX : Gd l g own cc rm nL ret fin X P) {w : WD} {pc q : Nat} {lv : List (Option Value)} {st : List Value} {V : Nat → Nat → Nat} {o : Nat} (ho : o < 7) (k : Nat) {i x : Nat} (hk : 1 ≤ k ∧ k < 12) (hlt : i < lnV k) (hd : decode cc pc = .ok (.iastore, 1)) (hq : pc + 1 = q) (kk : P (wO w o (vU V k i x)) q lv st) : P (wO w o V) pc lv (.int (nI x) :: .int (nI i) :: .ref (g_ad g o k) :: st) := pw_iastV hX ho k hk hlt hd hq (by rw [wA_wO, wO_s]; exact kk)
theorem pw_ialdMF {l : Launch} {g : Geo} {own : String} {cc : ByteArray} {rm : Room} {nL : Nat} {ret : Option FieldType} {fin : Option Value → WD → Prop} {X : Nat → Nat → (Nat → Int32) → Prop} {P : PT} (hX : Gd l g own cc rm nL ret fin X P) {w : WD} {pc q : Nat} {lv : List (Option Value)} {st : List Value} {V : Nat → Nat → Nat} (k : Nat) {i : Nat} (hk : k = 1 ∨ k = 2 ∨ k = 3 ∨ k = 4 ∨ k = 6) (hlt : i < lnM k) (hd : decode cc pc = .ok (.iaload, 1)) (hq : pc + 1 = q) (kk : P (wO w 9 V) q lv (.int (nI (V k i)) :: st)) : P (wO w 9 V) pc lv (.int (nI i) :: .ref (g_ad g 9 k) :: st) := pw_ialdM hX k hk hlt hd hq (by rw [wO_s]; exact kk)
theorem pw_iastMF {l : Launch} {g : Geo} {own : String} {cc : ByteArray} {rm : Room} {nL : Nat} {ret : Option FieldType} {fin : Option Value → WD → Prop} {X : Nat → Nat → (Nat → Int32) → Prop} {P : PT} (hX : Gd l g own cc rm nL ret fin X P) {w : WD} {pc q : Nat} {lv : List (Option Value)} {st : List Value} {V : Nat → Nat → Nat} (k : Nat) {i x : Nat} (hk : k = 1 ∨ k = 2 ∨ k = 3 ∨ k = 4 ∨ k = 6) (hlt : i < lnM k) (hd : decode cc pc = .ok (.iastore, 1)) (hq : pc + 1 = q) (kk : P (wO w 9 (vU V k i x)) q lv st) : P (wO w 9 V) pc lv (.int (nI x) :: .int (nI i) :: .ref (g_ad g 9 k) :: st) := pw_iastM hX k hk hlt hd hq (by rw [wA_wO, wO_s]; exact kk)
theorem pw_caldMF {l : Launch} {g : Geo} {own : String} {cc : ByteArray} {rm : Room} {nL : Nat} {ret : Option FieldType} {fin : Option Value → WD → Prop} {X : Nat → Nat → (Nat → Int32) → Prop} {P : PT} (hX : Gd l g own cc rm nL ret fin X P) {w : WD} {pc q : Nat} {lv : List (Option Value)} {st : List Value} {V : Nat → Nat → Nat} {i : Nat} (hlt : i < 60) (hd : decode cc pc = .ok (.caload, 1)) (hq : pc + 1 = q) (kk : P (wO w 9 V) q lv (.int (nI (V 5 i)) :: st)) : P (wO w 9 V) pc lv (.int (nI i) :: .ref (g_ad g 9 5) :: st) := pw_caldM hX hlt hd hq (by rw [wO_s]; exact kk)
theorem pw_castMF {l : Launch} {g : Geo} {own : String} {cc : ByteArray} {rm : Room} {nL : Nat} {ret : Option FieldType} {fin : Option Value → WD → Prop} {X : Nat → Nat → (Nat → Int32) → Prop} {P : PT} (hX : Gd l g own cc rm nL ret fin X P) {w : WD} {pc q : Nat} {lv : List (Option Value)} {st : List Value} {V : Nat → Nat → Nat} {i x : Nat} (hlt : i < 60) (hxc : x < 65536) (hd : decode cc pc = .ok (.castore, 1)) (hq : pc + 1 = q) (kk : P (wO w 9 (vU V 5 i x)) q lv st) : P (wO w 9 V) pc lv (.int (nI x) :: .int (nI i) :: .ref (g_ad g 9 5) :: st) := pw_castM hX hlt hxc hd hq (by rw [wA_wO, wO_s]; exact kk)
theorem n_or (a b : Nat) : nI a ||| nI b = nI (a ||| b) := by
  apply Int32.toBitVec_inj.mp
  show BitVec.ofNat 32 a ||| BitVec.ofNat 32 b = BitVec.ofNat 32 (a ||| b)
  apply BitVec.eq_of_toNat_eq
  simp [BitVec.toNat_or, Nat.or_mod_two_pow]
theorem n_and (a b : Nat) : nI a &&& nI b = nI (a &&& b) := by
  apply Int32.toBitVec_inj.mp
  show BitVec.ofNat 32 a &&& BitVec.ofNat 32 b = BitVec.ofNat 32 (a &&& b)
  apply BitVec.eq_of_toNat_eq
  simp [BitVec.toNat_and, Nat.and_mod_two_pow]
theorem n_shc : ∀ n, n < 31 → (nI 1) <<< (nI n &&& 31) = nI (2 ^ n) := by decide +kernel
theorem pw_iorN {l : Launch} {g : Geo} {own : String} {cc : ByteArray} {rm : Room} {nL : Nat} {ret : Option FieldType} {fin : Option Value → WD → Prop} {X : Nat → Nat → (Nat → Int32) → Prop} {P : PT} (hX : Gd l g own cc rm nL ret fin X P) {w : WD} {pc q : Nat} {lv : List (Option Value)} {st : List Value} {a b : Nat} (hd : decode cc pc = .ok (.ior, 1)) (hq : pc + 1 = q) (kk : P w q lv (.int (nI (a ||| b)) :: st)) : P w pc lv (.int (nI b) :: .int (nI a) :: st) := pw_ior hX hd hq (by rw [n_or]; exact kk)
theorem pw_iandN {l : Launch} {g : Geo} {own : String} {cc : ByteArray} {rm : Room} {nL : Nat} {ret : Option FieldType} {fin : Option Value → WD → Prop} {X : Nat → Nat → (Nat → Int32) → Prop} {P : PT} (hX : Gd l g own cc rm nL ret fin X P) {w : WD} {pc q : Nat} {lv : List (Option Value)} {st : List Value} {a b : Nat} (hd : decode cc pc = .ok (.iand, 1)) (hq : pc + 1 = q) (kk : P w q lv (.int (nI (a &&& b)) :: st)) : P w pc lv (.int (nI b) :: .int (nI a) :: st) := pw_iand hX hd hq (by rw [n_and]; exact kk)
theorem pw_ishl1 {l : Launch} {g : Geo} {own : String} {cc : ByteArray} {rm : Room} {nL : Nat} {ret : Option FieldType} {fin : Option Value → WD → Prop} {X : Nat → Nat → (Nat → Int32) → Prop} {P : PT} (hX : Gd l g own cc rm nL ret fin X P) {w : WD} {pc q : Nat} {lv : List (Option Value)} {st : List Value} {b : Nat} (hb : b < 31) (hd : decode cc pc = .ok (.ishl, 1)) (hq : pc + 1 = q) (kk : P w q lv (.int (nI (2 ^ b)) :: st)) : P w pc lv (.int (nI b) :: .int (nI 1) :: st) := pw_ishl hX hd hq (by rw [n_shc _ hb]; exact kk)
theorem pw_iremN {l : Launch} {g : Geo} {own : String} {cc : ByteArray} {rm : Room} {nL : Nat} {ret : Option FieldType} {fin : Option Value → WD → Prop} {X : Nat → Nat → (Nat → Int32) → Prop} {P : PT} (hX : Gd l g own cc rm nL ret fin X P) {w : WD} {pc q : Nat} {lv : List (Option Value)} {st : List Value} {a b : Nat} (ha : a < 2 ^ 31) (h0 : 0 < b) (hb : b < 2 ^ 31) (hd : decode cc pc = .ok (.irem, 1)) (hq : pc + 1 = q) (kk : P w q lv (.int (nI (a % b)) :: st)) : P w pc lv (.int (nI b) :: .int (nI a) :: st) := pw_irem hX (fun z => by have h9 := (nI_eq (by omega) (by decide)).mp (z.trans nI_0.symm); omega) hd hq (by rw [pk_rem ha h0 hb]; exact kk)
theorem pw_idivN {l : Launch} {g : Geo} {own : String} {cc : ByteArray} {rm : Room} {nL : Nat} {ret : Option FieldType} {fin : Option Value → WD → Prop} {X : Nat → Nat → (Nat → Int32) → Prop} {P : PT} (hX : Gd l g own cc rm nL ret fin X P) {w : WD} {pc q : Nat} {lv : List (Option Value)} {st : List Value} {a b : Nat} (ha : a < 2 ^ 31) (h0 : 0 < b) (hb : b < 2 ^ 31) (hd : decode cc pc = .ok (.idiv, 1)) (hq : pc + 1 = q) (kk : P w q lv (.int (nI (a / b)) :: st)) : P w pc lv (.int (nI b) :: .int (nI a) :: st) := pw_idiv hX (fun z => by have h9 := (nI_eq (by omega) (by decide)).mp (z.trans nI_0.symm); omega) hd hq (by rw [pk_div ha h0 hb]; exact kk)
theorem loopUp {Z : Nat → Prop} {e : Nat} (h : ∀ i, i ≤ e → (i < e → Z (i + 1)) → Z i) : ∀ i, i ≤ e → Z i := by
  have key : ∀ d i, i ≤ e → e - i ≤ d → Z i := by
    intro d
    induction d with
    | zero => intro i hi hd; exact h i hi (fun hlt => by omega)
    | succ d ih => intro i hi hd; exact h i hi (fun hlt => ih (i + 1) (by omega) (by omega))
  exact fun i hi => key (e - i) i hi (Nat.le_refl _)
theorem CtI.at {l : Launch} {g : Geo} {y : MethodName} {bytes : ByteArray} {maxL : Nat} {ret : Option FieldType} {rm : Room} {av : List Value} {o : Nat} {w : WD} {r : Int32} {V' : Nat → Nat → Nat} (h : CtI l g y bytes maxL ret rm av (wO w o (w.1 o)) r (wO w o V')) : CtI l g y bytes maxL ret rm av w r (wO w o V') := by
  rw [wO_id] at h; exact h
theorem CtV.at {l : Launch} {g : Geo} {y : MethodName} {bytes : ByteArray} {maxL : Nat} {ret : Option FieldType} {rm : Room} {av : List Value} {o : Nat} {w : WD} {V' : Nat → Nat → Nat} (h : CtV l g y bytes maxL ret rm av (wO w o (w.1 o)) (wO w o V')) : CtV l g y bytes maxL ret rm av w (wO w o V') := by
  rw [wO_id] at h; exact h
/-- a number that an index test lets through -/
def hasN (n : Nat) (v : Int32) : Bool := decide (0 ≤ v.toInt ∧ v.toInt < n)
theorem hasN_nI {n i : Nat} (hi : i < 2 ^ 31) : hasN n (nI i) = decide (i < n) := by
  unfold hasN
  rw [nI_toInt hi]
  by_cases h : i < n
  · simp [h]
  · simp [h]
theorem hasN_of {n : Nat} {v : Int32} (hn : n < 2 ^ 31) (h : hasN n v = true) : ∃ i, i < n ∧ v = nI i := by
  unfold hasN at h
  have h := of_decide_eq_true h
  refine ⟨v.toInt.toNat, by omega, ?_⟩
  apply Int32.toInt_inj.mp
  rw [nI_toInt (by omega)]
  omega
/-- the reference: its row s is S, all else of it V -/
def mW (w : WD) (V : Nat → Nat → Nat) (S : Nat → Nat) : WD := wO w 9 (vA V 1 S)
theorem mW_of (w : WD) : mW w (w.1 9) (w.1 9 1) = w := by unfold mW; rw [vA_id, wO_id]
theorem mW_s (w : WD) (V : Nat → Nat → Nat) (S : Nat → Nat) (k : Nat) : (mW w V S).1 9 k = if k = 1 then S else V k := by unfold mW; rw [wO_s]; rfl
theorem mW_S (w : WD) (V : Nat → Nat → Nat) (S : Nat → Nat) : (mW w V S).1 9 1 = S := by rw [mW_s, if_pos rfl]
theorem mW_V (w : WD) (V : Nat → Nat → Nat) (S : Nat → Nat) {k : Nat} (h : k ≠ 1) : (mW w V S).1 9 k = V k := by rw [mW_s, if_neg h]
theorem mW_n (w : WD) (V : Nat → Nat → Nat) (S : Nat → Nat) {a : Nat} (h : a ≠ 9) : (mW w V S).1 a = w.1 a := wO_n w _ h
theorem mW_uS (w : WD) (V : Nat → Nat → Nat) (S : Nat → Nat) (f : Nat → Nat) : wO (mW w V S) 9 (vA ((mW w V S).1 9) 1 f) = mW w V f := by
  unfold mW; rw [wO_wO, wO_s, vA_vA]
theorem vA_comm (V : Nat → Nat → Nat) {k k' : Nat} (f f' : Nat → Nat) (h : k ≠ k') : vA (vA V k f) k' f' = vA (vA V k' f') k f := by
  funext b
  by_cases h1 : b = k
  · subst h1; simp [vA, h]
  · by_cases h2 : b = k'
    · subst h2; simp [vA, h1]
    · simp [vA, h1, h2]
theorem mW_uV (w : WD) (V : Nat → Nat → Nat) (S : Nat → Nat) (f : Nat → Nat) {k : Nat} (h : k ≠ 1) : wO (mW w V S) 9 (vA ((mW w V S).1 9) k f) = mW w (vA V k f) S := by
  unfold mW; rw [wO_wO, wO_s, vA_comm V S f (Ne.symm h)]
theorem mW_eS {w : WD} {V : Nat → Nat → Nat} {S S' : Nat → Nat} (h : S = S') : mW w V S = mW w V S' := by rw [h]
theorem mW_eV {w : WD} {V V' : Nat → Nat → Nat} {S S' : Nat → Nat} (h : V = V') (h2 : S = S') : mW w V S = mW w V' S' := by rw [h, h2]
theorem fsM_S (g : Geo) (w : WD) (V : Nat → Nat → Nat) (S : Nat → Nat) : fsM g (mW w V S) = fsMF g V := by unfold mW; rw [fsMF_e]; rfl
theorem wA_mWS (w : WD) (V : Nat → Nat → Nat) (S f : Nat → Nat) : wA (mW w V S) 9 1 f = mW w V f := by unfold mW; rw [wA_wO, vA_vA]
theorem wA_mWV (w : WD) (V : Nat → Nat → Nat) (S f : Nat → Nat) {k : Nat} (h : k ≠ 1) : wA (mW w V S) 9 k f = mW w (vA V k f) S := by unfold mW; rw [wA_wO, vA_comm V S f (Ne.symm h)]
theorem pw_getMS {l : Launch} {g : Geo} {own : String} {cc : ByteArray} {rm : Room} {nL : Nat} {ret : Option FieldType} {fin : Option Value → WD → Prop} {X : Nat → Nat → (Nat → Int32) → Prop} {P : PT} (hX : Gd l g own cc rm nL ret fin X P) {w : WD} {pc q : Nat} {lv : List (Option Value)} {st : List Value} {V : Nat → Nat → Nat} {S : Nat → Nat} (k : Nat) {v : Value} {index : Nat} (hk : k < 10) (hlink : Cond.fieldLink own index (TX4 k).1 (TX4 k).2.1 (TX4 k).2.2.1 ∈ TB) (hv : (fsMF g V)[k]? = some v) (hd : decode cc pc = .ok (.getfield index, 3)) (hq : pc + 3 = q) (kk : P (mW w V S) q lv (v :: st)) : P (mW w V S) pc lv (.ref (g_ad g 9 0) :: st) := pw_getM hX k hk hlink (by rw [fsM_S]; exact hv) hd hq kk
theorem pw_putMS {l : Launch} {g : Geo} {own : String} {cc : ByteArray} {rm : Room} {nL : Nat} {ret : Option FieldType} {fin : Option Value → WD → Prop} {X : Nat → Nat → (Nat → Int32) → Prop} {P : PT} (hX : Gd l g own cc rm nL ret fin X P) {w : WD} {pc q : Nat} {lv : List (Option Value)} {st : List Value} {V : Nat → Nat → Nat} {S : Nat → Nat} (k : Nat) {x index : Nat} (hk : k = 4 ∨ k = 6 ∨ k = 7 ∨ k = 8) (hlink : Cond.fieldLink own index (TX4 k).1 (TX4 k).2.1 (TX4 k).2.2.1 ∈ TB) (hd : decode cc pc = .ok (.putfield index, 3)) (hq : pc + 3 = q) (kk : P (mW w (vU V 0 k x) S) q lv st) : P (mW w V S) pc lv (.int (nI x) :: .ref (g_ad g 9 0) :: st) := pw_putM hX k hk hlink hd hq (by rw [wA_mWV _ _ _ _ (by decide), mW_V _ _ _ (by decide)]; exact kk)
theorem pw_ialdS {l : Launch} {g : Geo} {own : String} {cc : ByteArray} {rm : Room} {nL : Nat} {ret : Option FieldType} {fin : Option Value → WD → Prop} {X : Nat → Nat → (Nat → Int32) → Prop} {P : PT} (hX : Gd l g own cc rm nL ret fin X P) {w : WD} {pc q : Nat} {lv : List (Option Value)} {st : List Value} {V : Nat → Nat → Nat} {S : Nat → Nat} {i : Nat} (hlt : i < 813) (hd : decode cc pc = .ok (.iaload, 1)) (hq : pc + 1 = q) (kk : P (mW w V S) q lv (.int (nI (S i)) :: st)) : P (mW w V S) pc lv (.int (nI i) :: .ref (g_ad g 9 1) :: st) := pw_ialdM hX 1 (by decide) hlt hd hq (by rw [mW_S]; exact kk)
theorem pw_iastS {l : Launch} {g : Geo} {own : String} {cc : ByteArray} {rm : Room} {nL : Nat} {ret : Option FieldType} {fin : Option Value → WD → Prop} {X : Nat → Nat → (Nat → Int32) → Prop} {P : PT} (hX : Gd l g own cc rm nL ret fin X P) {w : WD} {pc q : Nat} {lv : List (Option Value)} {st : List Value} {V : Nat → Nat → Nat} {S : Nat → Nat} {i x : Nat} (hlt : i < 813) (hd : decode cc pc = .ok (.iastore, 1)) (hq : pc + 1 = q) (kk : P (mW w V (upN S i x)) q lv st) : P (mW w V S) pc lv (.int (nI x) :: .int (nI i) :: .ref (g_ad g 9 1) :: st) := pw_iastM hX 1 (by decide) hlt hd hq (by rw [wA_mWS, mW_S]; exact kk)
theorem pw_ialdMS {l : Launch} {g : Geo} {own : String} {cc : ByteArray} {rm : Room} {nL : Nat} {ret : Option FieldType} {fin : Option Value → WD → Prop} {X : Nat → Nat → (Nat → Int32) → Prop} {P : PT} (hX : Gd l g own cc rm nL ret fin X P) {w : WD} {pc q : Nat} {lv : List (Option Value)} {st : List Value} {V : Nat → Nat → Nat} {S : Nat → Nat} (k : Nat) {i : Nat} (hk : k = 2 ∨ k = 3 ∨ k = 4 ∨ k = 6) (hlt : i < lnM k) (hd : decode cc pc = .ok (.iaload, 1)) (hq : pc + 1 = q) (kk : P (mW w V S) q lv (.int (nI (V k i)) :: st)) : P (mW w V S) pc lv (.int (nI i) :: .ref (g_ad g 9 k) :: st) := pw_ialdM hX k (by omega) hlt hd hq (by rw [mW_V _ _ _ (by omega)]; exact kk)
theorem pw_iastMS {l : Launch} {g : Geo} {own : String} {cc : ByteArray} {rm : Room} {nL : Nat} {ret : Option FieldType} {fin : Option Value → WD → Prop} {X : Nat → Nat → (Nat → Int32) → Prop} {P : PT} (hX : Gd l g own cc rm nL ret fin X P) {w : WD} {pc q : Nat} {lv : List (Option Value)} {st : List Value} {V : Nat → Nat → Nat} {S : Nat → Nat} (k : Nat) {i x : Nat} (hk : k = 2 ∨ k = 3 ∨ k = 4 ∨ k = 6) (hlt : i < lnM k) (hd : decode cc pc = .ok (.iastore, 1)) (hq : pc + 1 = q) (kk : P (mW w (vU V k i x) S) q lv st) : P (mW w V S) pc lv (.int (nI x) :: .int (nI i) :: .ref (g_ad g 9 k) :: st) := pw_iastM hX k (by omega) hlt hd hq (by rw [wA_mWV _ _ _ _ (by omega), mW_V _ _ _ (by omega)]; exact kk)
theorem pw_caldMS {l : Launch} {g : Geo} {own : String} {cc : ByteArray} {rm : Room} {nL : Nat} {ret : Option FieldType} {fin : Option Value → WD → Prop} {X : Nat → Nat → (Nat → Int32) → Prop} {P : PT} (hX : Gd l g own cc rm nL ret fin X P) {w : WD} {pc q : Nat} {lv : List (Option Value)} {st : List Value} {V : Nat → Nat → Nat} {S : Nat → Nat} {i : Nat} (hlt : i < 60) (hd : decode cc pc = .ok (.caload, 1)) (hq : pc + 1 = q) (kk : P (mW w V S) q lv (.int (nI (V 5 i)) :: st)) : P (mW w V S) pc lv (.int (nI i) :: .ref (g_ad g 9 5) :: st) := pw_caldM hX hlt hd hq (by rw [mW_V _ _ _ (by decide)]; exact kk)
theorem pw_castMS {l : Launch} {g : Geo} {own : String} {cc : ByteArray} {rm : Room} {nL : Nat} {ret : Option FieldType} {fin : Option Value → WD → Prop} {X : Nat → Nat → (Nat → Int32) → Prop} {P : PT} (hX : Gd l g own cc rm nL ret fin X P) {w : WD} {pc q : Nat} {lv : List (Option Value)} {st : List Value} {V : Nat → Nat → Nat} {S : Nat → Nat} {i x : Nat} (hlt : i < 60) (hxc : x < 65536) (hd : decode cc pc = .ok (.castore, 1)) (hq : pc + 1 = q) (kk : P (mW w (vU V 5 i x) S) q lv st) : P (mW w V S) pc lv (.int (nI x) :: .int (nI i) :: .ref (g_ad g 9 5) :: st) := pw_castM hX hlt hxc hd hq (by rw [wA_mWV _ _ _ _ (by decide), mW_V _ _ _ (by decide)]; exact kk)
theorem weq_mW {w : WD} {V V' : Nat → Nat → Nat} {S S' : Nat → Nat} (hS : ∀ j, j < 813 → S j = S' j) (h0 : ∀ j, j < 10 → V 0 j = V' 0 j) (hV : ∀ k j, k ≠ 0 → k ≠ 1 → j < lnM k → V k j = V' k j) : weq (mW w V S) (mW w V' S') := by
  refine ⟨fun o k j hz hj => ?_, fun _ _ => rfl⟩
  by_cases ho : o = 9
  · subst ho
    rw [mW_s, mW_s]
    by_cases h1 : k = 1
    · subst h1
      rw [if_pos rfl, if_pos rfl]
      exact hS j hj
    · rw [if_neg h1, if_neg h1]
      by_cases hk : k = 0
      · subst hk
        exact h0 j hj
      · rw [if_neg hk] at hj
        exact hV k j hk h1 hj
  · rw [mW_n _ _ _ ho, mW_n _ _ _ ho]
theorem jn {A B : Prop} (a : A) (f : A → B) : B := f a
def lle (l' l : List (Option Value)) : Prop := ∀ i v, lg l' i = some v → lg l i = some v
theorem lle_nil {l : List (Option Value)} : lle [] l := fun i v h => by simp [lg] at h
theorem lle_rfl {l : List (Option Value)} : lle l l := fun i v h => h
theorem lle_cons {a : Option Value} {l l' : List (Option Value)} (h : lle l' l) : lle (a :: l') (a :: l) := fun i v hi => by
  cases i with
  | zero => exact hi
  | succ i => exact h i v hi
theorem lle_none {b : Option Value} {l l' : List (Option Value)} (h : lle l' l) : lle (none :: l') (b :: l) := fun i v hi => by
  cases i with
  | zero => simp [lg] at hi
  | succ i => exact h i v hi
def ix (v : Int32) : Nat := v.toInt.toNat
theorem ix_nI {i : Nat} (h : i < 2 ^ 31) : ix (nI i) = i := by unfold ix; rw [nI_toInt h]; omega
/-- the first n of f, then g -/
def cp (n : Nat) (f g : Nat → Nat) : Nat → Nat := fun k => if k < n then f k else g k
theorem cp_0 (f g : Nat → Nat) : cp 0 f g = g := by funext k; simp [cp]
theorem cp_s (n : Nat) (f g : Nat → Nat) : upN (cp n f g) n (f n) = cp (n + 1) f g := by
  funext k
  by_cases h : k = n
  · subst h; simp [upN, cp]
  · simp only [upN, if_neg h, cp]
    by_cases h2 : k < n
    · rw [if_pos h2, if_pos (by omega)]
    · rw [if_neg h2, if_neg (by omega)]
theorem pw_fg {l : Launch} {g : Geo} {own : String} {cc : ByteArray} {rm : Room} {nL : Nat} {ret : Option FieldType} {fin : Option Value → WD → Prop} {X : Nat → Nat → (Nat → Int32) → Prop} {P : PT} (hX : Gd l g own cc rm nL ret fin X P) {w : WD} {pc : Nat} {lv : List (Option Value)} {st : List Value} {lv' : List (Option Value)} (hle : lle lv' lv) (kk : P w pc lv' st) : P w pc lv st := by
  obtain ⟨p, e, s, m, args, below, meth, c, cells, slots, Q, A, rfl, hx, hb, hml, hown, hTB, hNL, hK, hG, hcs, hScr, hri, hrv⟩ := hX
  intro H locs ls hP hS hl
  exact kk H locs ls hP hS ⟨hl.1, hl.2.1, fun i v h => hl.2.2 i v (hle i v h)⟩
end
section
theorem nI_1' : nI 1 = 1 := by decide
theorem in_has {n : Nat} (h : n < 2 ^ 31) (v : Int32) : (decide (nI 0 ≤ v) && decide (v ≤ nI n - nI 1)) = hasN n v := by
  unfold hasN
  rw [Bool.eq_iff_iff]
  simp only [Bool.and_eq_true, decide_eq_true_eq, Int32.le_iff_toInt_le]
  rw [nI_toInt (show 0 < 2 ^ 31 by decide)]
  rcases Nat.eq_zero_or_pos n with h0 | h0
  · subst h0
    rw [show (nI 0 - nI 1 : Int32).toInt = -1 by decide]
    omega
  · rw [pk_sub h0, nI_toInt (show n - 1 < 2 ^ 31 by omega)]
    omega
/-- lo to hi -/
def inN (lo hi : Nat) (v : Int32) : Bool := decide ((lo : Int) ≤ v.toInt ∧ v.toInt ≤ hi)
theorem in_in {lo hi : Nat} (h : lo < 2 ^ 31) (h2 : hi < 2 ^ 31) (v : Int32) : (decide (nI lo ≤ v) && decide (v ≤ nI hi)) = inN lo hi v := by
  unfold inN
  rw [Bool.eq_iff_iff]
  simp only [Bool.and_eq_true, decide_eq_true_eq, Int32.le_iff_toInt_le]
  rw [nI_toInt h, nI_toInt h2]
theorem inN_of {lo hi : Nat} {v : Int32} (hn : hi < 2 ^ 31) (h : inN lo hi v = true) : ∃ i, lo ≤ i ∧ i ≤ hi ∧ v = nI i := by
  unfold inN at h
  have h := of_decide_eq_true h
  refine ⟨v.toInt.toNat, by omega, by omega, ?_⟩
  apply Int32.toInt_inj.mp
  rw [nI_toInt (by omega)]
  omega
theorem inN_nI {lo hi i : Nat} (hi' : i < 2 ^ 31) : inN lo hi (nI i) = decide (lo ≤ i ∧ i ≤ hi) := by
  unfold inN
  rw [nI_toInt hi']
  simp
/-- how many of the first n -/
def cnt (p : Nat → Bool) : Nat → Nat
  | 0 => 0
  | n + 1 => cnt p n + if p n = true then 1 else 0
theorem cnt_le (p : Nat → Bool) : ∀ n, cnt p n ≤ n
  | 0 => Nat.le_refl _
  | n + 1 => by have := cnt_le p n; simp only [cnt]; split <;> omega
/-- the reference's numbers are small, but for the ghosts -/
def bS (S : Nat → Nat) : Prop := (∀ i, 33 ≤ i → i < 813 → S i < 2 ^ 30) ∧ (∀ v k, v < 7 → k < 4 → k ≠ 2 → S (5 + 4 * v + k) < 2 ^ 30) ∧ S 0 ≤ 7 ∧ S 1 < 2 ^ 30 ∧ S 2 < 2 ^ 30
theorem bSe {S : Nat → Nat} (h : bS S) {i : Nat} (h1 : 33 ≤ i) (h2 : i < 813) : S i < 2 ^ 31 := by have := h.1 i h1 h2; omega
theorem bSw {S : Nat → Nat} (h : bS S) {v k : Nat} (h1 : v < 7) (h2 : k < 4) (h3 : k ≠ 2) : S (5 + 4 * v + k) < 2 ^ 31 := by have := h.2.1 v k h1 h2 h3; omega
theorem bS0 {S : Nat → Nat} (h : bS S) : S 0 < 2 ^ 31 := by have := h.2.2.1; omega
theorem bS1 {S : Nat → Nat} (h : bS S) : S 1 < 2 ^ 31 := by have := h.2.2.2.1; omega
theorem bS2 {S : Nat → Nat} (h : bS S) : S 2 < 2 ^ 31 := by have := h.2.2.2.2; omega
abbrev rm_X4_in : Room := { frames := 0, cells := 0, slots := 0, locals := 0 }
set_option maxHeartbeats 4000000 in
set_option maxRecDepth 20000 in
theorem c_X4_in {l : Launch} {g : Geo} {w : WD} {v lo hi : Int32}  : CtI l g yX4_in cX4_in 3 (some .boolean) rm_X4_in [.int v, .int lo, .int hi] (w) (bI (decide (lo ≤ v) && decide (v ≤ hi))) (w) := by
  refine ct_of mi_X4_in.2.2.2.2 ⟨rfl, rfl⟩ (List.forall_mem_cons.mpr ⟨rfl, List.forall_mem_cons.mpr ⟨rfl, List.forall_mem_cons.mpr ⟨rfl, fun _ h => absurd h List.not_mem_nil⟩⟩⟩) (Nat.le_of_ble_eq_true rfl) (fun P hX => ?_)
  replace hX : Gd l g RX4 cX4_in rm_X4_in 3 (some .boolean) _ _ P := hX
  show P (w) 0 [some (.int v), some (.int lo), some (.int hi)] []
  refine pw_iload_n hX rfl dX4_in_0 (q := 1) rfl ?_
  refine pw_iload_n hX rfl dX4_in_1 (q := 2) rfl ?_
  refine pw_icmp_lt hX (tgt := 14) dX4_in_2 (q := 5) rfl (by decide) (fun h_2 => ?_) (fun h_2 => ?_)
  · refine pw_iconst hX (k := 0) rfl (by decide) dX4_in_14 (q := 15) rfl ?_
    refine pw_ireturn hX dX4_in_15 ⟨_, rfl, by first | exact bI_nar _ | decide | rfl⟩ ⟨congrArg (fun z => some (Value.int z)) ?_, ?_⟩
    · cases hb : (decide (lo ≤ v) && decide (v ≤ hi)) <;> simp only [Bool.and_eq_true, Bool.and_eq_false_iff, decide_eq_true_eq, decide_eq_false_iff_not, Int32.le_iff_toInt_le, Int32.lt_iff_toInt_lt] at * <;> first | rfl | (exfalso; omega)
    · rfl
  · refine pw_iload_n hX rfl dX4_in_5 (q := 6) rfl ?_
    refine pw_iload_n hX rfl dX4_in_6 (q := 7) rfl ?_
    refine pw_icmp_gt hX (tgt := 14) dX4_in_7 (q := 10) rfl (by decide) (fun h_7 => ?_) (fun h_7 => ?_)
    · refine pw_iconst hX (k := 0) rfl (by decide) dX4_in_14 (q := 15) rfl ?_
      refine pw_ireturn hX dX4_in_15 ⟨_, rfl, by first | exact bI_nar _ | decide | rfl⟩ ⟨congrArg (fun z => some (Value.int z)) ?_, ?_⟩
      · cases hb : (decide (lo ≤ v) && decide (v ≤ hi)) <;> simp only [Bool.and_eq_true, Bool.and_eq_false_iff, decide_eq_true_eq, decide_eq_false_iff_not, Int32.le_iff_toInt_le, Int32.lt_iff_toInt_lt] at * <;> first | rfl | (exfalso; omega)
      · rfl
    · refine pw_iconst hX (k := 1) rfl (by decide) dX4_in_10 (q := 11) rfl ?_
      refine pw_goto hX (tgt := 15) dX4_in_11 (by decide) ?_
      refine pw_ireturn hX dX4_in_15 ⟨_, rfl, by first | exact bI_nar _ | decide | rfl⟩ ⟨congrArg (fun z => some (Value.int z)) ?_, ?_⟩
      · cases hb : (decide (lo ≤ v) && decide (v ≤ hi)) <;> simp only [Bool.and_eq_true, Bool.and_eq_false_iff, decide_eq_true_eq, decide_eq_false_iff_not, Int32.le_iff_toInt_le, Int32.lt_iff_toInt_lt] at * <;> first | rfl | (exfalso; omega)
      · rfl
theorem c_X4_inN {l : Launch} {g : Geo} {w : WD} {v : Int32} {lo hi : Nat} (h1 : lo < 2 ^ 31) (h2 : hi < 2 ^ 31) : CtI l g yX4_in cX4_in 3 (some .boolean) rm_X4_in [.int v, .int (nI lo), .int (nI hi)] w (bI (inN lo hi v)) w := by
  rw [← in_in h1 h2]; exact c_X4_in
abbrev rm_X4_isTopic : Room := { frames := 1, cells := 0, slots := 0, locals := 22 }
set_option maxHeartbeats 4000000 in
set_option maxRecDepth 20000 in
theorem c_X4_isTopic {l : Launch} {g : Geo} {w : WD} {v : Int32}  : CtI l g yX4_isTopic cX4_isTopic 1 (some .boolean) rm_X4_isTopic [.int v] (w) (bI (hasN 12 v)) (w) := by
  refine ct_of mi_X4_isTopic.2.2.2.2 ⟨rfl, rfl⟩ (List.forall_mem_cons.mpr ⟨rfl, fun _ h => absurd h List.not_mem_nil⟩) (Nat.le_of_ble_eq_true rfl) (fun P hX => ?_)
  replace hX : Gd l g RX4 cX4_isTopic rm_X4_isTopic 1 (some .boolean) _ _ P := hX
  show P (w) 0 [some (.int v)] []
  refine pw_iload_n hX rfl dX4_isTopic_0 (q := 1) rfl ?_
  refine pw_iconst hX (k := 0) rfl (by decide) dX4_isTopic_1 (q := 2) rfl ?_
  refine pw_bipush hX (k := 11) (by decide) dX4_isTopic_2 (q := 4) rfl ?_
  refine pw_csI3 hX dX4_isTopic_4 (q := 7) rfl mi_X4_in ml_X4_33 ⟨rfl, rfl, by decide, by decide⟩ rfl (Nat.le_of_ble_eq_true rfl) (c_X4_in) ?_
  refine pw_ireturn hX dX4_isTopic_7 ⟨_, rfl, by first | exact bI_nar _ | decide | rfl⟩ ⟨congrArg (fun z => some (Value.int z)) ?_, ?_⟩
  · rw [← in_has (by decide) v]; rfl
  · rfl
abbrev rm_X4_vi : Room := { frames := 0, cells := 0, slots := 0, locals := 0 }
set_option maxHeartbeats 4000000 in
set_option maxRecDepth 20000 in
theorem c_X4_vi {l : Launch} {g : Geo} {w : WD} {V : Nat → Nat → Nat} {S : Nat → Nat} {i k : Nat} (hi : i < 7) (hk : k < 4) : CtI l g yX4_vi cX4_vi 3 (some .int) rm_X4_vi [.ref (g_ad g 9 0), .int (nI i), .int (nI k)] (mW w V S) (nI (S (5 + 4 * i + k))) (mW w V S) := by
  refine ct_of mi_X4_vi.2.2.2.2.2 ⟨rfl, rfl⟩ (List.forall_mem_cons.mpr ⟨rfl, List.forall_mem_cons.mpr ⟨rfl, List.forall_mem_cons.mpr ⟨rfl, fun _ h => absurd h List.not_mem_nil⟩⟩⟩) (Nat.le_of_ble_eq_true rfl) (fun P hX => ?_)
  replace hX : Gd l g RX4 cX4_vi rm_X4_vi 3 (some .int) _ _ P := hX
  show P (mW w V S) 0 [some (.ref (g_ad g 9 0)), some (.int (nI i)), some (.int (nI k))] []
  refine pw_aload_n hX rfl dX4_vi_0 (q := 1) rfl ?_
  refine pw_getMS hX 0 (by decide) fl_X4_7 rfl dX4_vi_1 (q := 4) rfl ?_
  refine pw_iconst hX (k := 5) rfl (by decide) dX4_vi_4 (q := 5) rfl ?_
  refine pw_iconst hX (k := 4) rfl (by decide) dX4_vi_5 (q := 6) rfl ?_
  refine pw_iload_n hX rfl dX4_vi_6 (q := 7) rfl ?_
  refine pw_imulN hX dX4_vi_7 (q := 8) rfl ?_
  refine pw_iaddN hX dX4_vi_8 (q := 9) rfl ?_
  refine pw_iload_n hX rfl dX4_vi_9 (q := 10) rfl ?_
  refine pw_iaddN hX dX4_vi_10 (q := 11) rfl ?_
  refine pw_ialdS hX (by omega) dX4_vi_11 (q := 12) rfl ?_
  refine pw_ireturn hX dX4_vi_12 ⟨_, rfl, rfl⟩ ⟨congrArg (fun z => some (Value.int z)) ?_, ?_⟩
  · rfl
  · rfl
abbrev rm_X4_place : Room := { frames := 0, cells := 0, slots := 0, locals := 0 }
set_option maxHeartbeats 4000000 in
set_option maxRecDepth 20000 in
theorem c_X4_place {l : Launch} {g : Geo} {w : WD} {i k : Nat}  : CtI l g yX4_place cX4_place 2 (some .int) rm_X4_place [.int (nI i), .int (nI k)] (w) (nI (225 + 84 * i + 7 * k)) (w) := by
  refine ct_of mi_X4_place.2.2.2.2 ⟨rfl, rfl⟩ (List.forall_mem_cons.mpr ⟨rfl, List.forall_mem_cons.mpr ⟨rfl, fun _ h => absurd h List.not_mem_nil⟩⟩) (Nat.le_of_ble_eq_true rfl) (fun P hX => ?_)
  replace hX : Gd l g RX4 cX4_place rm_X4_place 2 (some .int) _ _ P := hX
  show P (w) 0 [some (.int (nI i)), some (.int (nI k))] []
  refine pw_sipush hX (k := 225) (by decide) dX4_place_0 (q := 3) rfl ?_
  refine pw_bipush hX (k := 84) (by decide) dX4_place_3 (q := 5) rfl ?_
  refine pw_iload_n hX rfl dX4_place_5 (q := 6) rfl ?_
  refine pw_imulN hX dX4_place_6 (q := 7) rfl ?_
  refine pw_iaddN hX dX4_place_7 (q := 8) rfl ?_
  refine pw_bipush hX (k := 7) (by decide) dX4_place_8 (q := 10) rfl ?_
  refine pw_iload_n hX rfl dX4_place_10 (q := 11) rfl ?_
  refine pw_imulN hX dX4_place_11 (q := 12) rfl ?_
  refine pw_iaddN hX dX4_place_12 (q := 13) rfl ?_
  refine pw_ireturn hX dX4_place_13 ⟨_, rfl, rfl⟩ ⟨congrArg (fun z => some (Value.int z)) ?_, ?_⟩
  · rfl
  · rfl
abbrev rm_X4_en : Room := { frames := 1, cells := 0, slots := 0, locals := 21 }
set_option maxHeartbeats 4000000 in
set_option maxRecDepth 20000 in
theorem c_X4_en {l : Launch} {g : Geo} {w : WD} {V : Nat → Nat → Nat} {S : Nat → Nat} {i t k : Nat} (hi : i < 7) (ht : t < 12) (hk : k < 7) : CtI l g yX4_en cX4_en 4 (some .int) rm_X4_en [.ref (g_ad g 9 0), .int (nI i), .int (nI t), .int (nI k)] (mW w V S) (nI (S (225 + 84 * i + 7 * t + k))) (mW w V S) := by
  refine ct_of mi_X4_en.2.2.2.2.2 ⟨rfl, rfl⟩ (List.forall_mem_cons.mpr ⟨rfl, List.forall_mem_cons.mpr ⟨rfl, List.forall_mem_cons.mpr ⟨rfl, List.forall_mem_cons.mpr ⟨rfl, fun _ h => absurd h List.not_mem_nil⟩⟩⟩⟩) (Nat.le_of_ble_eq_true rfl) (fun P hX => ?_)
  replace hX : Gd l g RX4 cX4_en rm_X4_en 4 (some .int) _ _ P := hX
  show P (mW w V S) 0 [some (.ref (g_ad g 9 0)), some (.int (nI i)), some (.int (nI t)), some (.int (nI k))] []
  refine pw_aload_n hX rfl dX4_en_0 (q := 1) rfl ?_
  refine pw_getMS hX 0 (by decide) fl_X4_7 rfl dX4_en_1 (q := 4) rfl ?_
  refine pw_iload_n hX rfl dX4_en_4 (q := 5) rfl ?_
  refine pw_iload_n hX rfl dX4_en_5 (q := 6) rfl ?_
  refine pw_csI2 hX dX4_en_6 (q := 9) rfl mi_X4_place ml_X4_29 ⟨rfl, rfl, by decide, by decide⟩ rfl (Nat.le_of_ble_eq_true rfl) (c_X4_place) ?_
  refine pw_iload_n hX rfl dX4_en_9 (q := 10) rfl ?_
  refine pw_iaddN hX dX4_en_10 (q := 11) rfl ?_
  refine pw_ialdS hX (by omega) dX4_en_11 (q := 12) rfl ?_
  refine pw_ireturn hX dX4_en_12 ⟨_, rfl, rfl⟩ ⟨congrArg (fun z => some (Value.int z)) ?_, ?_⟩
  · rfl
  · rfl
abbrev rm_X4_isVillager : Room := { frames := 1, cells := 0, slots := 0, locals := 22 }
set_option maxHeartbeats 4000000 in
set_option maxRecDepth 20000 in
theorem c_X4_isVillager {l : Launch} {g : Geo} {w : WD} {V : Nat → Nat → Nat} {S : Nat → Nat} {v : Int32} (hn : S 0 ≤ 7) : CtI l g yX4_isVillager cX4_isVillager 2 (some .boolean) rm_X4_isVillager [.ref (g_ad g 9 0), .int v] (mW w V S) (bI (hasN (S 0) v)) (mW w V S) := by
  refine ct_of mi_X4_isVillager.2.2.2.2.2 ⟨rfl, rfl⟩ (List.forall_mem_cons.mpr ⟨rfl, List.forall_mem_cons.mpr ⟨rfl, fun _ h => absurd h List.not_mem_nil⟩⟩) (Nat.le_of_ble_eq_true rfl) (fun P hX => ?_)
  replace hX : Gd l g RX4 cX4_isVillager rm_X4_isVillager 2 (some .boolean) _ _ P := hX
  show P (mW w V S) 0 [some (.ref (g_ad g 9 0)), some (.int v)] []
  refine pw_iload_n hX rfl dX4_isVillager_0 (q := 1) rfl ?_
  refine pw_iconst hX (k := 0) rfl (by decide) dX4_isVillager_1 (q := 2) rfl ?_
  refine pw_aload_n hX rfl dX4_isVillager_2 (q := 3) rfl ?_
  refine pw_getMS hX 0 (by decide) fl_X4_7 rfl dX4_isVillager_3 (q := 6) rfl ?_
  refine pw_iconst hX (k := 0) rfl (by decide) dX4_isVillager_6 (q := 7) rfl ?_
  refine pw_ialdS hX (by omega) dX4_isVillager_7 (q := 8) rfl ?_
  refine pw_iconst hX (k := 1) rfl (by decide) dX4_isVillager_8 (q := 9) rfl ?_
  refine pw_isub hX dX4_isVillager_9 (q := 10) rfl ?_
  refine pw_csI3 hX dX4_isVillager_10 (q := 13) rfl mi_X4_in ml_X4_33 ⟨rfl, rfl, by decide, by decide⟩ rfl (Nat.le_of_ble_eq_true rfl) (c_X4_in) ?_
  refine pw_ireturn hX dX4_isVillager_13 ⟨_, rfl, by first | exact bI_nar _ | decide | rfl⟩ ⟨congrArg (fun z => some (Value.int z)) ?_, ?_⟩
  · rw [← in_has (by omega) v]
  · rfl
abbrev rm_X4_isAwake : Room := { frames := 1, cells := 0, slots := 0, locals := 22 }
set_option maxHeartbeats 4000000 in
set_option maxRecDepth 20000 in
theorem c_X4_isAwake {l : Launch} {g : Geo} {w : WD} {V : Nat → Nat → Nat} {S : Nat → Nat} {i : Nat} (hi : i < 7) (hB : bS S) : CtI l g yX4_isAwake cX4_isAwake 2 (some .boolean) rm_X4_isAwake [.ref (g_ad g 9 0), .int (nI i)] (mW w V S) (bI (decide (S (5 + 4 * i + 0) = 0))) (mW w V S) := by
  refine ct_of mi_X4_isAwake.2.2.2.2.2 ⟨rfl, rfl⟩ (List.forall_mem_cons.mpr ⟨rfl, List.forall_mem_cons.mpr ⟨rfl, fun _ h => absurd h List.not_mem_nil⟩⟩) (Nat.le_of_ble_eq_true rfl) (fun P hX => ?_)
  replace hX : Gd l g RX4 cX4_isAwake rm_X4_isAwake 2 (some .boolean) _ _ P := hX
  show P (mW w V S) 0 [some (.ref (g_ad g 9 0)), some (.int (nI i))] []
  refine pw_aload_n hX rfl dX4_isAwake_0 (q := 1) rfl ?_
  refine pw_iload_n hX rfl dX4_isAwake_1 (q := 2) rfl ?_
  refine pw_iconst hX (k := 0) rfl (by decide) dX4_isAwake_2 (q := 3) rfl ?_
  refine pw_cvI2 hX dX4_isAwake_3 (q := 6) rfl mi_X4_vi ml_X4_37 rcM ⟨rfl, rfl, by decide, by decide⟩ rfl (Nat.le_of_ble_eq_true rfl) (c_X4_vi (by first | assumption | omega) (by first | assumption | omega)) ?_
  refine pw_ifN_ne hX (by first | omega | exact bS0 hB | exact bSw hB (by omega) (by omega) (by omega) | exact bSe hB (by omega) (by omega) | exact bS1 hB | exact bS2 hB) (tgt := 13) dX4_isAwake_6 (q := 9) rfl (by decide) (fun h_6 => ?_) (fun h_6 => ?_)
  · refine pw_iconst hX (k := 0) rfl (by decide) dX4_isAwake_13 (q := 14) rfl ?_
    refine pw_ireturn hX dX4_isAwake_14 ⟨_, rfl, by first | exact bI_nar _ | decide | rfl⟩ ⟨congrArg (fun z => some (Value.int z)) ?_, ?_⟩
    · simp_all [bI]
    · rfl
  · refine pw_iconst hX (k := 1) rfl (by decide) dX4_isAwake_9 (q := 10) rfl ?_
    refine pw_goto hX (tgt := 14) dX4_isAwake_10 (by decide) ?_
    refine pw_ireturn hX dX4_isAwake_14 ⟨_, rfl, by first | exact bI_nar _ | decide | rfl⟩ ⟨congrArg (fun z => some (Value.int z)) ?_, ?_⟩
    · simp_all [bI]
    · rfl
abbrev rm_X4_isGone : Room := { frames := 1, cells := 0, slots := 0, locals := 22 }
set_option maxHeartbeats 4000000 in
set_option maxRecDepth 20000 in
theorem c_X4_isGone {l : Launch} {g : Geo} {w : WD} {V : Nat → Nat → Nat} {S : Nat → Nat} {i : Nat} (hi : i < 7) (hB : bS S) : CtI l g yX4_isGone cX4_isGone 2 (some .boolean) rm_X4_isGone [.ref (g_ad g 9 0), .int (nI i)] (mW w V S) (bI (decide (S (5 + 4 * i + 0) = 2))) (mW w V S) := by
  refine ct_of mi_X4_isGone.2.2.2.2.2 ⟨rfl, rfl⟩ (List.forall_mem_cons.mpr ⟨rfl, List.forall_mem_cons.mpr ⟨rfl, fun _ h => absurd h List.not_mem_nil⟩⟩) (Nat.le_of_ble_eq_true rfl) (fun P hX => ?_)
  replace hX : Gd l g RX4 cX4_isGone rm_X4_isGone 2 (some .boolean) _ _ P := hX
  show P (mW w V S) 0 [some (.ref (g_ad g 9 0)), some (.int (nI i))] []
  refine pw_aload_n hX rfl dX4_isGone_0 (q := 1) rfl ?_
  refine pw_iload_n hX rfl dX4_isGone_1 (q := 2) rfl ?_
  refine pw_iconst hX (k := 0) rfl (by decide) dX4_isGone_2 (q := 3) rfl ?_
  refine pw_cvI2 hX dX4_isGone_3 (q := 6) rfl mi_X4_vi ml_X4_37 rcM ⟨rfl, rfl, by decide, by decide⟩ rfl (Nat.le_of_ble_eq_true rfl) (c_X4_vi (by first | assumption | omega) (by first | assumption | omega)) ?_
  refine pw_iconst hX (k := 2) rfl (by decide) dX4_isGone_6 (q := 7) rfl ?_
  refine pw_icmpN_ne hX (by first | omega | exact bS0 hB | exact bSw hB (by omega) (by omega) (by omega) | exact bSe hB (by omega) (by omega) | exact bS1 hB | exact bS2 hB) (by first | omega | exact bS0 hB | exact bSw hB (by omega) (by omega) (by omega) | exact bSe hB (by omega) (by omega) | exact bS1 hB | exact bS2 hB) (tgt := 14) dX4_isGone_7 (q := 10) rfl (by decide) (fun h_7 => ?_) (fun h_7 => ?_)
  · refine pw_iconst hX (k := 0) rfl (by decide) dX4_isGone_14 (q := 15) rfl ?_
    refine pw_ireturn hX dX4_isGone_15 ⟨_, rfl, by first | exact bI_nar _ | decide | rfl⟩ ⟨congrArg (fun z => some (Value.int z)) ?_, ?_⟩
    · simp_all [bI]
    · rfl
  · refine pw_iconst hX (k := 1) rfl (by decide) dX4_isGone_10 (q := 11) rfl ?_
    refine pw_goto hX (tgt := 15) dX4_isGone_11 (by decide) ?_
    refine pw_ireturn hX dX4_isGone_15 ⟨_, rfl, by first | exact bI_nar _ | decide | rfl⟩ ⟨congrArg (fun z => some (Value.int z)) ?_, ?_⟩
    · simp_all [bI]
    · rfl
def mMany (S : Nat → Nat) (a : Nat) : Nat := cnt (fun v => decide (S (5 + 4 * v + 0) = a)) (S 0)
abbrev rm_X4_many : Room := { frames := 1, cells := 0, slots := 0, locals := 22 }
set_option maxHeartbeats 4000000 in
set_option maxRecDepth 20000 in
theorem c_X4_many {l : Launch} {g : Geo} {w : WD} {V : Nat → Nat → Nat} {S : Nat → Nat} {a : Nat} (ha : a < 2 ^ 31) (hB : bS S) : CtI l g yX4_many cX4_many 4 (some .int) rm_X4_many [.ref (g_ad g 9 0), .int (nI a)] (mW w V S) (nI (mMany S a)) (mW w V S) := by
  refine ct_of mi_X4_many.2.2.2.2.2 ⟨rfl, rfl⟩ (List.forall_mem_cons.mpr ⟨rfl, List.forall_mem_cons.mpr ⟨rfl, fun _ h => absurd h List.not_mem_nil⟩⟩) (Nat.le_of_ble_eq_true rfl) (fun P hX => ?_)
  replace hX : Gd l g RX4 cX4_many rm_X4_many 4 (some .int) _ _ P := hX
  show P (mW w V S) 0 [some (.ref (g_ad g 9 0)), some (.int (nI a)), none, none] []
  refine pw_iconst hX (k := 0) rfl (by decide) dX4_many_0 (q := 1) rfl ?_
  refine pw_istore_n hX (by decide) dX4_many_1 (q := 2) rfl ?_
  refine pw_iconst hX (k := 0) rfl (by decide) dX4_many_2 (q := 3) rfl ?_
  refine pw_istore_n hX (by decide) dX4_many_3 (q := 4) rfl ?_
  have h7 := hB.2.2.1
  suffices L : ∀ i, i ≤ S 0 → P (mW w V S) 4 [some (.ref (g_ad g 9 0)), some (.int (nI a)), some (.int (nI (cnt (fun v => decide (S (5 + 4 * v + 0) = a)) i))), some (.int (nI i))] [] by exact L 0 (Nat.zero_le _)
  refine loopUp (fun i hi ih => ?_)
  refine pw_iload_n hX rfl dX4_many_4 (q := 5) rfl ?_
  refine pw_aload_n hX rfl dX4_many_5 (q := 6) rfl ?_
  refine pw_getMS hX 0 (by decide) fl_X4_7 rfl dX4_many_6 (q := 9) rfl ?_
  refine pw_iconst hX (k := 0) rfl (by decide) dX4_many_9 (q := 10) rfl ?_
  refine pw_ialdS hX (by omega) dX4_many_10 (q := 11) rfl ?_
  refine pw_icmpN_ge hX (by first | omega | exact bS0 hB | exact bSw hB (by omega) (by omega) (by omega) | exact bSe hB (by omega) (by omega) | exact bS1 hB | exact bS2 hB) (by first | omega | exact bS0 hB | exact bSw hB (by omega) (by omega) (by omega) | exact bSe hB (by omega) (by omega) | exact bS1 hB | exact bS2 hB) (tgt := 38) dX4_many_11 (q := 14) rfl (by decide) (fun h_11 => ?_) (fun h_11 => ?_)
  · refine pw_iload_n hX rfl dX4_many_38 (q := 39) rfl ?_
    refine pw_ireturn hX dX4_many_39 ⟨_, rfl, rfl⟩ ⟨congrArg (fun z => some (Value.int z)) ?_, ?_⟩
    · rw [show i = S 0 by omega]; rfl
    · rfl
  · refine pw_iload_n hX rfl dX4_many_14 (q := 15) rfl ?_
    refine pw_aload_n hX rfl dX4_many_15 (q := 16) rfl ?_
    refine pw_iload_n hX rfl dX4_many_16 (q := 17) rfl ?_
    refine pw_iconst hX (k := 0) rfl (by decide) dX4_many_17 (q := 18) rfl ?_
    refine pw_cvI2 hX dX4_many_18 (q := 21) rfl mi_X4_vi ml_X4_37 rcM ⟨rfl, rfl, by decide, by decide⟩ rfl (Nat.le_of_ble_eq_true rfl) (c_X4_vi (by first | assumption | omega) (by first | assumption | omega)) ?_
    refine pw_iload_n hX rfl dX4_many_21 (q := 22) rfl ?_
    refine pw_icmpN_ne hX (by first | omega | exact bS0 hB | exact bSw hB (by omega) (by omega) (by omega) | exact bSe hB (by omega) (by omega) | exact bS1 hB | exact bS2 hB) (by first | omega | exact bS0 hB | exact bSw hB (by omega) (by omega) (by omega) | exact bSe hB (by omega) (by omega) | exact bS1 hB | exact bS2 hB) (tgt := 29) dX4_many_22 (q := 25) rfl (by decide) (fun h_22 => ?_) (fun h_22 => ?_)
    · refine pw_iconst hX (k := 0) rfl (by decide) dX4_many_29 (q := 30) rfl ?_
      refine pw_iaddN hX dX4_many_30 (q := 31) rfl ?_
      refine pw_istore_n hX (by decide) dX4_many_31 (q := 32) rfl ?_
      refine pw_iinc hX rfl (by decide) (inc1 _) dX4_many_32 (q := 35) rfl ?_
      refine pw_goto hX (tgt := 4) dX4_many_35 (by decide) ?_
      exact pw_eq rfl (by simp_all [lst, cnt]) rfl (ih (by omega))
    · refine pw_iconst hX (k := 1) rfl (by decide) dX4_many_25 (q := 26) rfl ?_
      refine pw_goto hX (tgt := 30) dX4_many_26 (by decide) ?_
      refine pw_iaddN hX dX4_many_30 (q := 31) rfl ?_
      refine pw_istore_n hX (by decide) dX4_many_31 (q := 32) rfl ?_
      refine pw_iinc hX rfl (by decide) (inc1 _) dX4_many_32 (q := 35) rfl ?_
      refine pw_goto hX (tgt := 4) dX4_many_35 (by decide) ?_
      exact pw_eq rfl (by simp_all [lst, cnt]) rfl (ih (by omega))
end
section
/-! the reference's own steps, over its row -/
def mSh (V : Nat → Nat → Nat) : Nat → Nat → Nat := vA (vA V 2 (cp 2439 (fun j => V 2 (j + 813)) (V 2))) 0 (upN (V 0) 4 3)
def mPu (V : Nat → Nat → Nat) : Nat → Nat → Nat := vA (vA V 2 (fun j => if 813 * V 0 4 ≤ j ∧ j < 813 * V 0 4 + 813 then V 3 (j - 813 * V 0 4) else V 2 j)) 0 (upN (V 0) 4 (V 0 4 + 1))
def mPush (V : Nat → Nat → Nat) : Nat → Nat → Nat := if V 0 4 = 4 then mPu (mSh V) else mPu V
def mActed (V : Nat → Nat → Nat) (r : Int32) : Nat → Nat → Nat := if -1000001 < r then mPush V else V
def mVill (S : Nat → Nat) : Nat → Nat := upN (fun j => if 5 + 4 * S 0 ≤ j ∧ j < 5 + 4 * S 0 + 4 then 0 else S j) 0 (S 0 + 1)
def mSleeps (S : Nat → Nat) (v : Int32) : (Nat → Nat) × Int32 := if hasN (S 0) v = true then (if S (5 + 4 * ix v + 0) = 0 then (upN (upN S (5 + 4 * ix v + 0) 1) (5 + 4 * ix v + 3) (S 1), nI (mMany (upN (upN S (5 + 4 * ix v + 0) 1) (5 + 4 * ix v + 3) (S 1)) 0)) else (S, -1000002)) else (S, -1000001)
def mWakes (S : Nat → Nat) (v : Int32) : (Nat → Nat) × Int32 := if hasN (S 0) v = true then (if S (5 + 4 * ix v + 0) = 1 then (upN S (5 + 4 * ix v + 0) 0, nI (S 1) - nI (S (5 + 4 * ix v + 3))) else (S, -1000002)) else (S, -1000001)
def mLeft (S : Nat → Nat) (v : Nat) : Nat → Nat := fun j => if (225 + 84 * v ≤ j ∧ j < 225 + 84 * v + 84 ∧ (j - 225 - 84 * v) % 7 = 0) then 0 else upN S (5 + 4 * v + 0) 2 j
theorem bS_upN {S : Nat → Nat} (hB : bS S) {i x : Nat} (h0 : i ≠ 0) (hx : x < 2 ^ 30) : bS (upN S i x) := by
  obtain ⟨h1, h2, h3, h4, h5⟩ := hB
  refine ⟨fun j a b => ?_, fun v k a b c => ?_, ?_, ?_, ?_⟩
  · unfold upN; split
    · exact hx
    · exact h1 j a b
  · unfold upN; split
    · exact hx
    · exact h2 v k a b c
  · rw [upN_n _ _ (Ne.symm h0)]; exact h3
  · unfold upN; split
    · exact hx
    · exact h4
  · unfold upN; split
    · exact hx
    · exact h5
abbrev rm_X4_keeps : Room := { frames := 0, cells := 0, slots := 0, locals := 0 }
set_option maxHeartbeats 4000000 in
set_option maxRecDepth 20000 in
theorem c_X4_keeps {l : Launch} {g : Geo} {w : WD} {V : Nat → Nat → Nat} {S : Nat → Nat}  : CtV l g yX4_keeps cX4_keeps 2 none rm_X4_keeps [.ref (g_ad g 9 0)] (mW w V S) (mW w (vA V 3 S) S) := by
  refine ct_of mi_X4_keeps.2.2.2.2.2 ⟨rfl, rfl⟩ (List.forall_mem_cons.mpr ⟨rfl, fun _ h => absurd h List.not_mem_nil⟩) (Nat.le_of_ble_eq_true rfl) (fun P hX => ?_)
  replace hX : Gd l g RX4 cX4_keeps rm_X4_keeps 2 none _ _ P := hX
  show P (mW w V S) 0 [some (.ref (g_ad g 9 0)), none] []
  refine pw_iconst hX (k := 0) rfl (by decide) dX4_keeps_0 (q := 1) rfl ?_
  refine pw_istore_n hX (by decide) dX4_keeps_1 (q := 2) rfl ?_
  suffices L : ∀ i, i ≤ 813 → P (mW w (vA V 3 (cp i S (V 3))) S) 2 [some (.ref (g_ad g 9 0)), some (.int (nI i))] [] by have h9 := L 0 (Nat.zero_le _); simp only [cp_0, vA_id] at h9; exact h9
  refine loopUp (fun i hi ih => ?_)
  refine pw_iload_n hX rfl dX4_keeps_2 (q := 3) rfl ?_
  refine pw_sipush hX (k := 813) (by decide) dX4_keeps_3 (q := 6) rfl ?_
  refine pw_icmpN_ge hX (by first | omega) (by first | omega) (tgt := 27) dX4_keeps_6 (q := 9) rfl (by decide) (fun h_6 => ?_) (fun h_6 => ?_)
  · refine pw_weq hX (w' := mW w (vA V 3 S) S) (weq_mW (fun _ _ => rfl) (fun _ _ => rfl) (fun k j h0 h1 hj => by
      by_cases hk : k = 3
      · subst hk; rw [vA_s, vA_s]; simp only [cp, if_pos (show j < i by have : lnM 3 = 813 := rfl; omega)]
      · rw [vA_n _ _ hk, vA_n _ _ hk])) ?_
    refine pw_return hX dX4_keeps_27 rfl ⟨rfl, ?_⟩
    rfl
  · refine pw_aload_n hX rfl dX4_keeps_9 (q := 10) rfl ?_
    refine pw_getMS hX 2 (by decide) fl_X4_16 rfl dX4_keeps_10 (q := 13) rfl ?_
    refine pw_iload_n hX rfl dX4_keeps_13 (q := 14) rfl ?_
    refine pw_aload_n hX rfl dX4_keeps_14 (q := 15) rfl ?_
    refine pw_getMS hX 0 (by decide) fl_X4_7 rfl dX4_keeps_15 (q := 18) rfl ?_
    refine pw_iload_n hX rfl dX4_keeps_18 (q := 19) rfl ?_
    refine pw_ialdS hX (by omega) dX4_keeps_19 (q := 20) rfl ?_
    refine pw_iastMS hX 3 (by decide) (show _ < 813 by omega) dX4_keeps_20 (q := 21) rfl ?_
    refine pw_iinc hX rfl (by decide) (inc1 _) dX4_keeps_21 (q := 24) rfl ?_
    refine pw_goto hX (tgt := 2) dX4_keeps_24 (by decide) ?_
    exact pw_eq (by simp only [vU, vA_s, vA_vA, cp_s]) rfl rfl (ih (by omega))
abbrev rm_X4_puts : Room := { frames := 0, cells := 0, slots := 0, locals := 0 }
set_option maxHeartbeats 4000000 in
set_option maxRecDepth 20000 in
theorem c_X4_puts {l : Launch} {g : Geo} {w : WD} {V : Nat → Nat → Nat} {S : Nat → Nat}  : CtV l g yX4_puts cX4_puts 2 none rm_X4_puts [.ref (g_ad g 9 0)] (mW w V S) (mW w (vA V 4 S) S) := by
  refine ct_of mi_X4_puts.2.2.2.2.2 ⟨rfl, rfl⟩ (List.forall_mem_cons.mpr ⟨rfl, fun _ h => absurd h List.not_mem_nil⟩) (Nat.le_of_ble_eq_true rfl) (fun P hX => ?_)
  replace hX : Gd l g RX4 cX4_puts rm_X4_puts 2 none _ _ P := hX
  show P (mW w V S) 0 [some (.ref (g_ad g 9 0)), none] []
  refine pw_iconst hX (k := 0) rfl (by decide) dX4_puts_0 (q := 1) rfl ?_
  refine pw_istore_n hX (by decide) dX4_puts_1 (q := 2) rfl ?_
  suffices L : ∀ i, i ≤ 813 → P (mW w (vA V 4 (cp i S (V 4))) S) 2 [some (.ref (g_ad g 9 0)), some (.int (nI i))] [] by have h9 := L 0 (Nat.zero_le _); simp only [cp_0, vA_id] at h9; exact h9
  refine loopUp (fun i hi ih => ?_)
  refine pw_iload_n hX rfl dX4_puts_2 (q := 3) rfl ?_
  refine pw_sipush hX (k := 813) (by decide) dX4_puts_3 (q := 6) rfl ?_
  refine pw_icmpN_ge hX (by first | omega) (by first | omega) (tgt := 27) dX4_puts_6 (q := 9) rfl (by decide) (fun h_6 => ?_) (fun h_6 => ?_)
  · refine pw_weq hX (w' := mW w (vA V 4 S) S) (weq_mW (fun _ _ => rfl) (fun _ _ => rfl) (fun k j h0 h1 hj => by
      by_cases hk : k = 4
      · subst hk; rw [vA_s, vA_s]; simp only [cp, if_pos (show j < i by have : lnM 4 = 813 := rfl; omega)]
      · rw [vA_n _ _ hk, vA_n _ _ hk])) ?_
    refine pw_return hX dX4_puts_27 rfl ⟨rfl, ?_⟩
    rfl
  · refine pw_aload_n hX rfl dX4_puts_9 (q := 10) rfl ?_
    refine pw_getMS hX 3 (by decide) fl_X4_19 rfl dX4_puts_10 (q := 13) rfl ?_
    refine pw_iload_n hX rfl dX4_puts_13 (q := 14) rfl ?_
    refine pw_aload_n hX rfl dX4_puts_14 (q := 15) rfl ?_
    refine pw_getMS hX 0 (by decide) fl_X4_7 rfl dX4_puts_15 (q := 18) rfl ?_
    refine pw_iload_n hX rfl dX4_puts_18 (q := 19) rfl ?_
    refine pw_ialdS hX (by omega) dX4_puts_19 (q := 20) rfl ?_
    refine pw_iastMS hX 4 (by decide) (show _ < 813 by omega) dX4_puts_20 (q := 21) rfl ?_
    refine pw_iinc hX rfl (by decide) (inc1 _) dX4_puts_21 (q := 24) rfl ?_
    refine pw_goto hX (tgt := 2) dX4_puts_24 (by decide) ?_
    exact pw_eq (by simp only [vU, vA_s, vA_vA, cp_s]) rfl rfl (ih (by omega))
abbrev rm_X4_restores : Room := { frames := 0, cells := 0, slots := 0, locals := 0 }
set_option maxHeartbeats 4000000 in
set_option maxRecDepth 20000 in
theorem c_X4_restores {l : Launch} {g : Geo} {w : WD} {V : Nat → Nat → Nat} {S : Nat → Nat}  : CtV l g yX4_restores cX4_restores 2 none rm_X4_restores [.ref (g_ad g 9 0)] (mW w V S) (mW w V (V 4)) := by
  refine ct_of mi_X4_restores.2.2.2.2.2 ⟨rfl, rfl⟩ (List.forall_mem_cons.mpr ⟨rfl, fun _ h => absurd h List.not_mem_nil⟩) (Nat.le_of_ble_eq_true rfl) (fun P hX => ?_)
  replace hX : Gd l g RX4 cX4_restores rm_X4_restores 2 none _ _ P := hX
  show P (mW w V S) 0 [some (.ref (g_ad g 9 0)), none] []
  refine pw_iconst hX (k := 0) rfl (by decide) dX4_restores_0 (q := 1) rfl ?_
  refine pw_istore_n hX (by decide) dX4_restores_1 (q := 2) rfl ?_
  suffices L : ∀ i, i ≤ 813 → P (mW w V (cp i (V 4) S)) 2 [some (.ref (g_ad g 9 0)), some (.int (nI i))] [] by have h9 := L 0 (Nat.zero_le _); simp only [cp_0] at h9; exact h9
  refine loopUp (fun i hi ih => ?_)
  refine pw_iload_n hX rfl dX4_restores_2 (q := 3) rfl ?_
  refine pw_sipush hX (k := 813) (by decide) dX4_restores_3 (q := 6) rfl ?_
  refine pw_icmpN_ge hX (by first | omega) (by first | omega) (tgt := 27) dX4_restores_6 (q := 9) rfl (by decide) (fun h_6 => ?_) (fun h_6 => ?_)
  · refine pw_weq hX (w' := mW w V (V 4)) (weq_mW (fun j hj => by simp only [cp, if_pos (show j < i by omega)]) (fun _ _ => rfl) (fun _ _ _ _ _ => rfl)) ?_
    refine pw_return hX dX4_restores_27 rfl ⟨rfl, ?_⟩
    rfl
  · refine pw_aload_n hX rfl dX4_restores_9 (q := 10) rfl ?_
    refine pw_getMS hX 0 (by decide) fl_X4_7 rfl dX4_restores_10 (q := 13) rfl ?_
    refine pw_iload_n hX rfl dX4_restores_13 (q := 14) rfl ?_
    refine pw_aload_n hX rfl dX4_restores_14 (q := 15) rfl ?_
    refine pw_getMS hX 3 (by decide) fl_X4_19 rfl dX4_restores_15 (q := 18) rfl ?_
    refine pw_iload_n hX rfl dX4_restores_18 (q := 19) rfl ?_
    refine pw_ialdMS hX 4 (by decide) (show _ < 813 by omega) dX4_restores_19 (q := 20) rfl ?_
    refine pw_iastS hX (by omega) dX4_restores_20 (q := 21) rfl ?_
    refine pw_iinc hX rfl (by decide) (inc1 _) dX4_restores_21 (q := 24) rfl ?_
    refine pw_goto hX (tgt := 2) dX4_restores_24 (by decide) ?_
    exact pw_eq (by rw [← cp_s]) rfl rfl (ih (by omega))
abbrev rm_X4_acted : Room := { frames := 0, cells := 0, slots := 0, locals := 0 }
set_option maxHeartbeats 4000000 in
set_option maxRecDepth 20000 in
theorem c_X4_acted {l : Launch} {g : Geo} {w : WD} {V : Nat → Nat → Nat} {S : Nat → Nat} {r : Int32} (h4 : V 0 4 ≤ 4) : CtI l g yX4_acted cX4_acted 3 (some .int) rm_X4_acted [.ref (g_ad g 9 0), .int r] (mW w V S) (r) (mW w (mActed V r) S) := by
  refine ct_of mi_X4_acted.2.2.2.2.2 ⟨rfl, rfl⟩ (List.forall_mem_cons.mpr ⟨rfl, List.forall_mem_cons.mpr ⟨rfl, fun _ h => absurd h List.not_mem_nil⟩⟩) (Nat.le_of_ble_eq_true rfl) (fun P hX => ?_)
  replace hX : Gd l g RX4 cX4_acted rm_X4_acted 3 (some .int) _ _ P := hX
  show P (mW w V S) 0 [some (.ref (g_ad g 9 0)), some (.int r), none] []
  refine pw_iload_n hX rfl dX4_acted_0 (q := 1) rfl ?_
  refine pw_ldc hX cn_X4_40 dX4_acted_1 (q := 3) rfl ?_
  refine pw_icmp_le hX (tgt := 101) dX4_acted_3 (q := 6) rfl (by decide) (fun h_3 => ?_) (fun h_3 => ?_)
  · refine pw_iload_n hX rfl dX4_acted_101 (q := 102) rfl ?_
    refine pw_ireturn hX dX4_acted_102 ⟨_, rfl, rfl⟩ ⟨congrArg (fun z => some (Value.int z)) ?_, ?_⟩
    · rfl
    · first | (rw [hA]; rfl) | (rw [show mActed V r = V from if_neg (fun z => by first | exact absurd z (Int32.not_lt.mpr h_3) | exact absurd (Int32.lt_of_lt_of_le z h_3) (Int32.lt_irrefl _))])
  · have h_c : -1000001 < r := Int32.not_le.mp h_3
    refine jn (A := ∀ V1 : Nat → Nat → Nat, V1 0 4 ≤ 3 → mActed V r = mPu V1 → P (mW w V1 S) 55 [some (.ref (g_ad g 9 0)), some (.int r), none] []) ?_ (fun J6 => ?_)
    · intro V1 hV1 hA
      refine pw_iconst hX (k := 0) rfl (by decide) dX4_acted_55 (q := 56) rfl ?_
      refine pw_istore_n hX (by decide) dX4_acted_56 (q := 57) rfl ?_
      suffices L : ∀ i, i ≤ 813 → P (mW w (vA V1 2 (fun j => if 813 * V1 0 4 ≤ j ∧ j < 813 * V1 0 4 + i then V1 3 (j - 813 * V1 0 4) else V1 2 j)) S) 57 [some (.ref (g_ad g 9 0)), some (.int r), some (.int (nI i))] [] by
        refine pw_eq ?_ rfl rfl (L 0 (Nat.zero_le _))
        rw [show (fun j => if 813 * V1 0 4 ≤ j ∧ j < 813 * V1 0 4 + 0 then V1 3 (j - 813 * V1 0 4) else V1 2 j) = V1 2 from funext (fun j => if_neg (by omega)), vA_id]
      refine loopUp (fun i hi ih => ?_)
      refine pw_iload_n hX rfl dX4_acted_57 (q := 58) rfl ?_
      refine pw_sipush hX (k := 813) (by decide) dX4_acted_58 (q := 61) rfl ?_
      refine pw_icmpN_ge hX (by omega) (by omega) (tgt := 91) dX4_acted_61 (q := 64) rfl (by decide) (fun h_61 => ?_) (fun h_61 => ?_)
      · have e57 : i = 813 := by omega
        subst e57
        refine pw_aload_n hX rfl dX4_acted_91 (q := 92) rfl ?_
        refine pw_dup hX rfl dX4_acted_92 (q := 93) rfl ?_
        refine pw_getMS hX 4 (by decide) fl_X4_41 rfl dX4_acted_93 (q := 96) rfl ?_
        refine pw_iconst hX (k := 1) rfl (by decide) dX4_acted_96 (q := 97) rfl ?_
        refine pw_iaddN hX dX4_acted_97 (q := 98) rfl ?_
        refine pw_putMS hX 4 (by decide) fl_X4_41 dX4_acted_98 (q := 101) rfl ?_
        refine pw_iload_n hX rfl dX4_acted_101 (q := 102) rfl ?_
        refine pw_ireturn hX dX4_acted_102 ⟨_, rfl, rfl⟩ ⟨congrArg (fun z => some (Value.int z)) ?_, ?_⟩
        · rfl
        · first | (rw [hA]; rfl) | (rw [show mActed V r = V from if_neg (fun z => by first | exact absurd z (Int32.not_lt.mpr h_3) | exact absurd (Int32.lt_of_lt_of_le z h_3) (Int32.lt_irrefl _))])
      · refine pw_aload_n hX rfl dX4_acted_64 (q := 65) rfl ?_
        refine pw_getMS hX 1 (by decide) fl_X4_13 rfl dX4_acted_65 (q := 68) rfl ?_
        refine pw_sipush hX (k := 813) (by decide) dX4_acted_68 (q := 71) rfl ?_
        refine pw_aload_n hX rfl dX4_acted_71 (q := 72) rfl ?_
        refine pw_getMS hX 4 (by decide) fl_X4_41 rfl dX4_acted_72 (q := 75) rfl ?_
        refine pw_imulN hX dX4_acted_75 (q := 76) rfl ?_
        refine pw_iload_n hX rfl dX4_acted_76 (q := 77) rfl ?_
        refine pw_iaddN hX dX4_acted_77 (q := 78) rfl ?_
        refine pw_aload_n hX rfl dX4_acted_78 (q := 79) rfl ?_
        refine pw_getMS hX 2 (by decide) fl_X4_16 rfl dX4_acted_79 (q := 82) rfl ?_
        refine pw_iload_n hX rfl dX4_acted_82 (q := 83) rfl ?_
        refine pw_ialdMS hX 3 (by decide) (show _ < 813 by omega) dX4_acted_83 (q := 84) rfl ?_
        refine pw_iastMS hX 2 (by decide) (show _ < 3252 by (have e0 : (vA V1 2 (fun j => if 813 * V1 0 4 ≤ j ∧ j < 813 * V1 0 4 + i then V1 3 (j - 813 * V1 0 4) else V1 2 j)) 0 4 = V1 0 4 := rfl; omega)) dX4_acted_84 (q := 85) rfl ?_
        refine pw_iinc hX rfl (by decide) (inc1 _) dX4_acted_85 (q := 88) rfl ?_
        refine pw_goto hX (tgt := 57) dX4_acted_88 (by decide) ?_
        refine pw_eq ?_ rfl rfl (ih (by omega))
        simp only [vU, vA_s, vA_vA]
        refine mW_eV (congrArg (vA V1 2) (funext fun j => ?_)) rfl
        simp only [upN, vA_n _ _ (show (0 : Nat) ≠ 2 by decide), vA_n _ _ (show (3 : Nat) ≠ 2 by decide)]
        by_cases hj : j = 813 * V1 0 4 + i
        · rw [if_pos hj, if_pos (by omega), hj, show 813 * V1 0 4 + i - 813 * V1 0 4 = i by omega]
        · rw [if_neg hj]
          by_cases h2 : 813 * V1 0 4 ≤ j ∧ j < 813 * V1 0 4 + i
          · rw [if_pos h2, if_pos (by omega)]
          · rw [if_neg h2, if_neg (by omega)]
    · have h_c : -1000001 < r := Int32.not_le.mp h_3
      refine pw_aload_n hX rfl dX4_acted_6 (q := 7) rfl ?_
      refine pw_getMS hX 4 (by decide) fl_X4_41 rfl dX4_acted_7 (q := 10) rfl ?_
      refine pw_iconst hX (k := 4) rfl (by decide) dX4_acted_10 (q := 11) rfl ?_
      refine pw_icmpN_ne hX (by omega) (by omega) (tgt := 55) dX4_acted_11 (q := 14) rfl (by decide) (fun h_11 => ?_) (fun h_11 => ?_)
      · exact pw_fg hX (by repeat first | exact lle_nil | refine lle_cons ?_ | refine lle_none ?_) (J6 _ (by first | omega | (show upN (V 0) 4 (V 0 4 - 1) 4 ≤ 3; rw [upN_s]; omega)) (by first | (rw [mActed, if_pos h_c, mPush, if_neg h_11]) | (rw [mActed, if_pos h_c, mPush, if_pos h_11]; refine congrArg mPu ?_; show mSh V = vA (vA V 2 _) 0 (upN (V 0) 4 (V 0 4 - 1)); rw [h_11]; rfl)))
      · refine pw_iconst hX (k := 0) rfl (by decide) dX4_acted_14 (q := 15) rfl ?_
        refine pw_istore_n hX (by decide) dX4_acted_15 (q := 16) rfl ?_
        suffices L : ∀ i, i ≤ 2439 → P (mW w (vA V 2 (cp i (fun j => V 2 (j + 813)) (V 2))) S) 16 [some (.ref (g_ad g 9 0)), some (.int r), some (.int (nI i))] [] by have h9 := L 0 (Nat.zero_le _); simp only [cp_0, vA_id] at h9; exact h9
        refine loopUp (fun i hi ih => ?_)
        refine pw_iload_n hX rfl dX4_acted_16 (q := 17) rfl ?_
        refine pw_sipush hX (k := 2439) (by decide) dX4_acted_17 (q := 20) rfl ?_
        refine pw_icmpN_ge hX (by omega) (by omega) (tgt := 45) dX4_acted_20 (q := 23) rfl (by decide) (fun h_20 => ?_) (fun h_20 => ?_)
        · have e16 : i = 2439 := by omega
          subst e16
          refine pw_aload_n hX rfl dX4_acted_45 (q := 46) rfl ?_
          refine pw_dup hX rfl dX4_acted_46 (q := 47) rfl ?_
          refine pw_getMS hX 4 (by decide) fl_X4_41 rfl dX4_acted_47 (q := 50) rfl ?_
          refine pw_iconst hX (k := 1) rfl (by decide) dX4_acted_50 (q := 51) rfl ?_
          refine pw_isubN hX (by show 1 ≤ V 0 4; omega) dX4_acted_51 (q := 52) rfl ?_
          refine pw_putMS hX 4 (by decide) fl_X4_41 dX4_acted_52 (q := 55) rfl ?_
          exact pw_fg hX (by repeat first | exact lle_nil | refine lle_cons ?_ | refine lle_none ?_) (J6 _ (by first | omega | (show upN (V 0) 4 (V 0 4 - 1) 4 ≤ 3; rw [upN_s]; omega)) (by first | (rw [mActed, if_pos h_c, mPush, if_neg h_11]) | (rw [mActed, if_pos h_c, mPush, if_pos h_11]; refine congrArg mPu ?_; show mSh V = vA (vA V 2 _) 0 (upN (V 0) 4 (V 0 4 - 1)); rw [h_11]; rfl)))
        · refine pw_aload_n hX rfl dX4_acted_23 (q := 24) rfl ?_
          refine pw_getMS hX 1 (by decide) fl_X4_13 rfl dX4_acted_24 (q := 27) rfl ?_
          refine pw_iload_n hX rfl dX4_acted_27 (q := 28) rfl ?_
          refine pw_aload_n hX rfl dX4_acted_28 (q := 29) rfl ?_
          refine pw_getMS hX 1 (by decide) fl_X4_13 rfl dX4_acted_29 (q := 32) rfl ?_
          refine pw_iload_n hX rfl dX4_acted_32 (q := 33) rfl ?_
          refine pw_sipush hX (k := 813) (by decide) dX4_acted_33 (q := 36) rfl ?_
          refine pw_iaddN hX dX4_acted_36 (q := 37) rfl ?_
          refine pw_ialdMS hX 2 (by decide) (show _ < 3252 by omega) dX4_acted_37 (q := 38) rfl ?_
          refine pw_iastMS hX 2 (by decide) (show _ < 3252 by omega) dX4_acted_38 (q := 39) rfl ?_
          refine pw_iinc hX rfl (by decide) (inc1 _) dX4_acted_39 (q := 42) rfl ?_
          refine pw_goto hX (tgt := 16) dX4_acted_42 (by decide) ?_
          refine pw_eq ?_ rfl rfl (ih (by omega))
          rw [show (vA V 2 (cp i (fun j => V 2 (j + 813)) (V 2))) 2 (i + 813) = V 2 (i + 813) by rw [vA_s]; simp only [cp, if_neg (show ¬ i + 813 < i by omega)]]
          simp only [vU, vA_s, vA_vA]
          rw [← cp_s]
end
section
theorem mActed_n (V : Nat → Nat → Nat) {n : Nat} (h : n < 2 ^ 31) : mActed V (nI n) = mPush V := if_pos (by
  rw [Int32.lt_iff_toInt_lt, nI_toInt h, show (-1000001 : Int32).toInt = -1000001 by decide]; omega)
theorem mPush_states {V : Nat → Nat → Nat} (h : V 0 4 ≤ 4) : mPush V 0 4 ≤ 4 := by
  unfold mPush
  split
  · show upN (mSh V 0) 4 (mSh V 0 4 + 1) 4 ≤ 4
    rw [upN_s]
    show upN (V 0) 4 3 4 + 1 ≤ 4
    rw [upN_s]
    decide
  · show upN (V 0) 4 (V 0 4 + 1) 4 ≤ 4
    rw [upN_s]
    omega
theorem bS_le {S S' : Nat → Nat} (hB : bS S) (h : ∀ j, S' j ≤ S j) : bS S' := by
  obtain ⟨h1, h2, h3, h4, h5⟩ := hB
  exact ⟨fun j a b => Nat.lt_of_le_of_lt (h j) (h1 j a b), fun v k a b c => Nat.lt_of_le_of_lt (h _) (h2 v k a b c), Nat.le_trans (h 0) h3, Nat.lt_of_le_of_lt (h 1) h4, Nat.lt_of_le_of_lt (h 2) h5⟩
def zS (S : Nat → Nat) (n i : Nat) : Nat → Nat := fun j => if 5 + 4 * n ≤ j ∧ j < 5 + 4 * n + i then 0 else S j
theorem zS_s (S : Nat → Nat) (n i : Nat) : upN (zS S n i) (5 + 4 * n + i) 0 = zS S n (i + 1) := by
  funext j
  simp only [upN, zS]
  by_cases h : j = 5 + 4 * n + i
  · rw [if_pos h, if_pos (by omega)]
  · rw [if_neg h]
    by_cases h2 : 5 + 4 * n ≤ j ∧ j < 5 + 4 * n + i
    · rw [if_pos h2, if_pos (by omega)]
    · rw [if_neg h2, if_neg (by omega)]
theorem zS_0 (S : Nat → Nat) (n : Nat) : zS S n 0 = S := funext (fun j => if_neg (by omega))
def mNew (S : Nat → Nat) : Nat → Nat := upN (zS S (S 0) 4) 0 (S 0 + 1)
def zE (S : Nat → Nat) (v n : Nat) : Nat → Nat := fun j => if 225 + 84 * v ≤ j ∧ j < 225 + 84 * v + 7 * n ∧ (j - 225 - 84 * v) % 7 = 0 then 0 else S j
theorem zE_s (S : Nat → Nat) (v n : Nat) : upN (zE S v n) (225 + 84 * v + 7 * n) 0 = zE S v (n + 1) := by
  funext j
  simp only [upN, zE]
  by_cases h : j = 225 + 84 * v + 7 * n
  · rw [if_pos h, if_pos (by omega)]
  · rw [if_neg h]
    by_cases h2 : 225 + 84 * v ≤ j ∧ j < 225 + 84 * v + 7 * n ∧ (j - 225 - 84 * v) % 7 = 0
    · rw [if_pos h2, if_pos (by omega)]
    · rw [if_neg h2, if_neg (by omega)]
theorem zE_0 (S : Nat → Nat) (v : Nat) : zE S v 0 = S := funext (fun j => if_neg (by omega))
theorem zE_le (S : Nat → Nat) (v n j : Nat) : zE S v n j ≤ S j := by
  unfold zE; split <;> omega
def mLv (S : Nat → Nat) (v : Nat) : Nat → Nat := zE (upN S (5 + 4 * v + 0) 2) v 12
def mLeave (S : Nat → Nat) (v : Int32) : Int32 := if hasN (S 0) v = true then (if S (5 + 4 * ix v + 0) = 2 then -1000002 else nI (mMany (mLv S (ix v)) 0 + mMany (mLv S (ix v)) 1)) else -1000001
def mLeaveS (S : Nat → Nat) (v : Int32) : Nat → Nat := if hasN (S 0) v = true then (if S (5 + 4 * ix v + 0) = 2 then S else mLv S (ix v)) else S
def mLeaveV (V : Nat → Nat → Nat) (S : Nat → Nat) (v : Int32) : Nat → Nat → Nat := if hasN (S 0) v = true then (if S (5 + 4 * ix v + 0) = 2 then V else mPush (vA V 3 S)) else V
/-- a set of numbers below n -/
def bits (p : Nat → Bool) : Nat → Nat
  | 0 => 0
  | n + 1 => bits p n ||| (if p n = true then 2 ^ n else 0)
def mTopics (S : Nat → Nat) (v a : Nat) : Nat := bits (fun t => decide (S (225 + 84 * v + 7 * t + 0) = a)) 12
def mVOf (S : Nat → Nat) (v a : Int32) : Int32 := if hasN (S 0) v = true ∧ inN 0 5 a = true then (if ix a = 2 ∨ ix a = 3 then nI (mTopics S (ix v) (ix a - 1)) else if ix a = 4 then nI (S (5 + 4 * ix v + 2)) else if ix a = 5 then (if S (5 + 4 * ix v + 0) = 1 then nI (S 1) - nI (S (5 + 4 * ix v + 3)) else -1000004) else nI (S (5 + 4 * ix v + ix a))) else -1000001
def mNewer (a b c d : Nat) : Bool := decide (c < a ∨ (a = c ∧ d < b))
def mHN (S : Nat → Nat) (o p t : Nat) : Bool := if S (225 + 84 * o + 7 * t + 0) = 0 ∨ S (225 + 84 * p + 7 * t + 0) = 0 then decide (S (225 + 84 * o + 7 * t + 0) ≠ 0 ∧ S (225 + 84 * p + 7 * t + 0) = 0) else mNewer (S (225 + 84 * o + 7 * t + 1)) (S (225 + 84 * o + 7 * t + 2)) (S (225 + 84 * p + 7 * t + 1)) (S (225 + 84 * p + 7 * t + 2))
def mSame (S : Nat → Nat) (o p t : Nat) : Bool := decide (S (225 + 84 * o + 7 * t + 0) = 0 ↔ S (225 + 84 * p + 7 * t + 0) = 0) && (!(mHN S o p t) && !(mHN S p o t))
def mMake (S : Nat → Nat) (v t a b c : Nat) : Nat → Nat :=
  let S1 := upN S (5 + 4 * v + 1) (S (5 + 4 * v + 1) + 1)
  let S2 := upN S1 (225 + 84 * v + 7 * t) a
  let S3 := upN S2 (225 + 84 * v + 7 * t + 1) (S2 (5 + 4 * v + 1))
  let S4 := upN S3 (225 + 84 * v + 7 * t + 2) v
  let S5 := upN S4 (225 + 84 * v + 7 * t + 3) b
  let S6 := upN S5 (225 + 84 * v + 7 * t + 4) c
  let S7 := upN S6 (225 + 84 * v + 7 * t + 5) (S6 1)
  upN S7 (225 + 84 * v + 7 * t + 6) (2 ^ v)
theorem mMake_n (S : Nat → Nat) {v t a b c j : Nat} (h : j ≠ 5 + 4 * v + 1) (h2 : j < 225 + 84 * v + 7 * t ∨ 225 + 84 * v + 7 * t + 7 ≤ j) : mMake S v t a b c j = S j := by
  unfold mMake
  simp only [upN]
  repeat rw [if_neg (by omega)]
theorem mMake_c (S : Nat → Nat) {v t a b c : Nat} (h : v < 7) : mMake S v t a b c (5 + 4 * v + 1) = S (5 + 4 * v + 1) + 1 := by
  unfold mMake
  simp only [upN]
  repeat rw [if_neg (by omega)]
  rw [if_pos trivial]
theorem mMake_e (S : Nat → Nat) {v t a b c : Nat} (h : v < 7) : mMake S v t a b c (225 + 84 * v + 7 * t + 0) = a ∧ mMake S v t a b c (225 + 84 * v + 7 * t + 1) = S (5 + 4 * v + 1) + 1 ∧ mMake S v t a b c (225 + 84 * v + 7 * t + 2) = v ∧ mMake S v t a b c (225 + 84 * v + 7 * t + 3) = b ∧ mMake S v t a b c (225 + 84 * v + 7 * t + 4) = c ∧ mMake S v t a b c (225 + 84 * v + 7 * t + 5) = S 1 ∧ mMake S v t a b c (225 + 84 * v + 7 * t + 6) = 2 ^ v := by
  refine ⟨?_, ?_, ?_, ?_, ?_, ?_, ?_⟩ <;>
  · unfold mMake
    simp only [upN]
    repeat first
      | rw [if_pos (by first | trivial | omega)]
      | rw [if_neg (by omega)]
theorem bS_Make {S : Nat → Nat} (hB : bS S) {v t a b c : Nat} (hv : v < 7) (hc : S (5 + 4 * v + 1) + 1 < 2 ^ 30) (h1 : a < 2 ^ 30) (h2 : b < 2 ^ 30) (h3 : c < 2 ^ 30) : bS (mMake S v t a b c) := by
  have hp : 2 ^ v < 2 ^ 30 := Nat.pow_lt_pow_right (by decide) (by omega)
  have h1S := hB.2.2.2.1
  unfold mMake
  refine bS_upN (bS_upN (bS_upN (bS_upN (bS_upN (bS_upN (bS_upN (bS_upN hB (by omega) hc) (by omega) h1) (by omega) ?_) (by omega) (by omega)) (by omega) h2) (by omega) h3) (by omega) ?_) (by omega) hp
  · simp only [upN]
    split
    · exact h1
    · rw [if_pos trivial]; exact hc
  · simp only [upN]
    repeat rw [if_neg (by omega)]
    exact h1S
def mTells (S : Nat → Nat) (v t a k : Int32) : (Nat → Nat) × Int32 := if hasN (S 0) v = true ∧ hasN 12 t = true ∧ inN 0 99 a = true ∧ inN 0 2 k = true then (if S (5 + 4 * ix v + 0) = 0 then (mMake S (ix v) (ix t) 1 (ix a) (ix k), nI (mMake S (ix v) (ix t) 1 (ix a) (ix k) (5 + 4 * ix v + 1))) else (S, -1000002)) else (S, -1000001)
def mBury (S : Nat → Nat) (v t : Nat) : Nat → Nat :=
  let S1 := mMake S v t 2 0 0
  let S2 := upN S1 4 (S1 4 + 1)
  if mNewer (S1 (5 + 4 * v + 1)) v (S2 (33 + 2 * t)) (S2 (33 + 2 * t + 1)) = true then upN (upN S2 (33 + 2 * t) (S1 (5 + 4 * v + 1))) (33 + 2 * t + 1) v else S2
def mBuries (S : Nat → Nat) (v t : Int32) : (Nat → Nat) × Int32 := if hasN (S 0) v = true ∧ hasN 12 t = true then (if S (5 + 4 * ix v + 0) = 0 ∧ S (225 + 84 * ix v + 7 * ix t + 0) = 1 then (mBury S (ix v) (ix t), nI (mMake S (ix v) (ix t) 2 0 0 (5 + 4 * ix v + 1))) else (S, -1000002)) else (S, -1000001)
abbrev rm_X4_villager : Room := { frames := 1, cells := 0, slots := 0, locals := 22 }
set_option maxHeartbeats 4000000 in
set_option maxRecDepth 20000 in
theorem c_X4_villager {l : Launch} {g : Geo} {w : WD} {V : Nat → Nat → Nat} {S : Nat → Nat} (h4 : V 0 4 ≤ 4) (hB : bS S) : CtI l g yX4_villager cX4_villager 3 (some .int) rm_X4_villager [.ref (g_ad g 9 0)] (mW w V S) (if S 0 = 7 then -1000003 else nI (S 0)) (if S 0 = 7 then mW w V S else mW w (mPush (vA V 3 S)) (mNew S)) := by
  refine ct_of mi_X4_villager.2.2.2.2.2 ⟨rfl, rfl⟩ (List.forall_mem_cons.mpr ⟨rfl, fun _ h => absurd h List.not_mem_nil⟩) (Nat.le_of_ble_eq_true rfl) (fun P hX => ?_)
  replace hX : Gd l g RX4 cX4_villager rm_X4_villager 3 (some .int) _ _ P := hX
  show P (mW w V S) 0 [some (.ref (g_ad g 9 0)), none, none] []
  have h7 := hB.2.2.1
  have h7 := hB.2.2.1
  refine pw_aload_n hX rfl dX4_villager_0 (q := 1) rfl ?_
  refine pw_getMS hX 0 (by decide) fl_X4_7 rfl dX4_villager_1 (q := 4) rfl ?_
  refine pw_iconst hX (k := 0) rfl (by decide) dX4_villager_4 (q := 5) rfl ?_
  refine pw_ialdS hX (by omega) dX4_villager_5 (q := 6) rfl ?_
  refine pw_bipush hX (k := 7) (by decide) dX4_villager_6 (q := 8) rfl ?_
  refine pw_icmpN_ne hX (by first | omega | exact bS0 hB | exact bSw hB (by omega) (by omega) (by omega) | exact bSe hB (by omega) (by omega) | exact bS1 hB | exact bS2 hB) (by first | omega | exact bS0 hB | exact bSw hB (by omega) (by omega) (by omega) | exact bSe hB (by omega) (by omega) | exact bS1 hB | exact bS2 hB) (tgt := 14) dX4_villager_8 (q := 11) rfl (by decide) (fun h_8 => ?_) (fun h_8 => ?_)
  · refine pw_aload_n hX rfl dX4_villager_14 (q := 15) rfl ?_
    refine pw_cvV0 hX dX4_villager_15 (q := 18) rfl mi_X4_keeps ml_X4_46 rcM ⟨rfl, rfl, by decide, by decide⟩ rfl (Nat.le_of_ble_eq_true rfl) (c_X4_keeps) ?_
    refine pw_aload_n hX rfl dX4_villager_18 (q := 19) rfl ?_
    refine pw_getMS hX 0 (by decide) fl_X4_7 rfl dX4_villager_19 (q := 22) rfl ?_
    refine pw_iconst hX (k := 0) rfl (by decide) dX4_villager_22 (q := 23) rfl ?_
    refine pw_ialdS hX (by omega) dX4_villager_23 (q := 24) rfl ?_
    refine pw_istore_n hX (by decide) dX4_villager_24 (q := 25) rfl ?_
    refine pw_iconst hX (k := 0) rfl (by decide) dX4_villager_25 (q := 26) rfl ?_
    refine pw_istore_n hX (by decide) dX4_villager_26 (q := 27) rfl ?_
    suffices L : ∀ i, i ≤ 4 → P (mW w (vA V 3 S) (zS S (S 0) i)) 27 [some (.ref (g_ad g 9 0)), some (.int (nI (S 0))), some (.int (nI i))] [] by have h9 := L 0 (Nat.zero_le _); rw [zS_0] at h9; exact h9
    refine loopUp (fun i hi ih => ?_)
    refine pw_iload_n hX rfl dX4_villager_27 (q := 28) rfl ?_
    refine pw_iconst hX (k := 4) rfl (by decide) dX4_villager_28 (q := 29) rfl ?_
    refine pw_icmpN_ge hX (by first | omega | exact bS0 hB | exact bSw hB (by omega) (by omega) (by omega) | exact bSe hB (by omega) (by omega) | exact bS1 hB | exact bS2 hB) (by first | omega | exact bS0 hB | exact bSw hB (by omega) (by omega) (by omega) | exact bSe hB (by omega) (by omega) | exact bS1 hB | exact bS2 hB) (tgt := 51) dX4_villager_29 (q := 32) rfl (by decide) (fun h_29 => ?_) (fun h_29 => ?_)
    · have e4 : i = 4 := by omega
      subst e4
      refine pw_aload_n hX rfl dX4_villager_51 (q := 52) rfl ?_
      refine pw_getMS hX 0 (by decide) fl_X4_7 rfl dX4_villager_52 (q := 55) rfl ?_
      refine pw_iconst hX (k := 0) rfl (by decide) dX4_villager_55 (q := 56) rfl ?_
      refine pw_dup2 hX rfl rfl dX4_villager_56 (q := 57) rfl ?_
      refine pw_ialdS hX (by omega) dX4_villager_57 (q := 58) rfl ?_
      refine pw_iconst hX (k := 1) rfl (by decide) dX4_villager_58 (q := 59) rfl ?_
      refine pw_iaddN hX dX4_villager_59 (q := 60) rfl ?_
      refine pw_iastS hX (by omega) dX4_villager_60 (q := 61) rfl ?_
      rw [show zS S (S 0) 4 0 = S 0 from if_neg (by omega)]
      refine pw_aload_n hX rfl dX4_villager_61 (q := 62) rfl ?_
      refine pw_iload_n hX rfl dX4_villager_62 (q := 63) rfl ?_
      refine pw_cvI1 hX dX4_villager_63 (q := 66) rfl mi_X4_acted ml_X4_49 rcM ⟨rfl, rfl, by decide, by decide⟩ rfl (Nat.le_of_ble_eq_true rfl) (c_X4_acted (show (vA V 3 S) 0 4 ≤ 4 from h4)) ?_
      refine pw_ireturn hX dX4_villager_66 ⟨_, rfl, rfl⟩ ⟨congrArg (fun z => some (Value.int z)) ?_, ?_⟩
      · rw [if_neg h_8]
      · first | rw [if_pos h_8] | (rw [if_neg h_8, mActed_n _ (by omega)]; rfl)
    · refine pw_aload_n hX rfl dX4_villager_32 (q := 33) rfl ?_
      refine pw_getMS hX 0 (by decide) fl_X4_7 rfl dX4_villager_33 (q := 36) rfl ?_
      refine pw_iconst hX (k := 5) rfl (by decide) dX4_villager_36 (q := 37) rfl ?_
      refine pw_iconst hX (k := 4) rfl (by decide) dX4_villager_37 (q := 38) rfl ?_
      refine pw_iload_n hX rfl dX4_villager_38 (q := 39) rfl ?_
      refine pw_imulN hX dX4_villager_39 (q := 40) rfl ?_
      refine pw_iaddN hX dX4_villager_40 (q := 41) rfl ?_
      refine pw_iload_n hX rfl dX4_villager_41 (q := 42) rfl ?_
      refine pw_iaddN hX dX4_villager_42 (q := 43) rfl ?_
      refine pw_iconst hX (k := 0) rfl (by decide) dX4_villager_43 (q := 44) rfl ?_
      refine pw_iastS hX (by omega) dX4_villager_44 (q := 45) rfl ?_
      refine pw_iinc hX rfl (by decide) (inc1 _) dX4_villager_45 (q := 48) rfl ?_
      refine pw_goto hX (tgt := 27) dX4_villager_48 (by decide) ?_
      exact pw_eq (by rw [zS_s]) rfl rfl (ih (by omega))
  · refine pw_ldc hX cn_X4_45 dX4_villager_11 (q := 13) rfl ?_
    refine pw_ireturn hX dX4_villager_13 ⟨_, rfl, rfl⟩ ⟨congrArg (fun z => some (Value.int z)) ?_, ?_⟩
    · rw [if_pos h_8]
    · first | rw [if_pos h_8] | (rw [if_neg h_8, mActed_n _ (by omega)]; rfl)
abbrev rm_X4_sleeps : Room := { frames := 2, cells := 0, slots := 0, locals := 45 }
set_option maxHeartbeats 4000000 in
set_option maxRecDepth 20000 in
theorem c_X4_sleeps {l : Launch} {g : Geo} {w : WD} {V : Nat → Nat → Nat} {S : Nat → Nat} {v : Int32} (hB : bS S) : CtI l g yX4_sleeps cX4_sleeps 2 (some .int) rm_X4_sleeps [.ref (g_ad g 9 0), .int v] (mW w V S) ((mSleeps S v).2) (mW w V (mSleeps S v).1) := by
  refine ct_of mi_X4_sleeps.2.2.2.2.2 ⟨rfl, rfl⟩ (List.forall_mem_cons.mpr ⟨rfl, List.forall_mem_cons.mpr ⟨rfl, fun _ h => absurd h List.not_mem_nil⟩⟩) (Nat.le_of_ble_eq_true rfl) (fun P hX => ?_)
  replace hX : Gd l g RX4 cX4_sleeps rm_X4_sleeps 2 (some .int) _ _ P := hX
  show P (mW w V S) 0 [some (.ref (g_ad g 9 0)), some (.int v)] []
  have h7 := hB.2.2.1
  refine pw_aload_n hX rfl dX4_sleeps_0 (q := 1) rfl ?_
  refine pw_iload_n hX rfl dX4_sleeps_1 (q := 2) rfl ?_
  refine pw_cvI1 hX dX4_sleeps_2 (q := 5) rfl mi_X4_isVillager ml_X4_53 rcM ⟨rfl, rfl, by decide, by decide⟩ rfl (Nat.le_of_ble_eq_true rfl) (c_X4_isVillager (by first | assumption | omega)) ?_
  refine pw_ifB_ne hX (tgt := 11) dX4_sleeps_5 (q := 8) rfl (by decide) (fun h_5 => ?_) (fun h_5 => ?_)
  · obtain ⟨i, hi, rfl⟩ := hasN_of (by have := hB.2.2.1; omega) h_5
    have hx : ix (nI i) = i := ix_nI (by have := hB.2.2.1; omega)
    have h7 := hB.2.2.1
    refine pw_aload_n hX rfl dX4_sleeps_11 (q := 12) rfl ?_
    refine pw_iload_n hX rfl dX4_sleeps_12 (q := 13) rfl ?_
    refine pw_cvI1 hX dX4_sleeps_13 (q := 16) rfl mi_X4_isAwake ml_X4_57 rcM ⟨rfl, rfl, by decide, by decide⟩ rfl (Nat.le_of_ble_eq_true rfl) (c_X4_isAwake (by first | assumption | omega) (by first | assumption | omega)) ?_
    refine pw_ifB_ne hX (tgt := 22) dX4_sleeps_16 (q := 19) rfl (by decide) (fun h_16 => ?_) (fun h_16 => ?_)
    · have h_16 := of_decide_eq_true h_16
      refine pw_aload_n hX rfl dX4_sleeps_22 (q := 23) rfl ?_
      refine pw_getMS hX 0 (by decide) fl_X4_7 rfl dX4_sleeps_23 (q := 26) rfl ?_
      refine pw_iconst hX (k := 5) rfl (by decide) dX4_sleeps_26 (q := 27) rfl ?_
      refine pw_iconst hX (k := 4) rfl (by decide) dX4_sleeps_27 (q := 28) rfl ?_
      refine pw_iload_n hX rfl dX4_sleeps_28 (q := 29) rfl ?_
      refine pw_imulN hX dX4_sleeps_29 (q := 30) rfl ?_
      refine pw_iaddN hX dX4_sleeps_30 (q := 31) rfl ?_
      refine pw_iconst hX (k := 0) rfl (by decide) dX4_sleeps_31 (q := 32) rfl ?_
      refine pw_iaddN hX dX4_sleeps_32 (q := 33) rfl ?_
      refine pw_iconst hX (k := 1) rfl (by decide) dX4_sleeps_33 (q := 34) rfl ?_
      refine pw_iastS hX (by omega) dX4_sleeps_34 (q := 35) rfl ?_
      refine pw_aload_n hX rfl dX4_sleeps_35 (q := 36) rfl ?_
      refine pw_getMS hX 0 (by decide) fl_X4_7 rfl dX4_sleeps_36 (q := 39) rfl ?_
      refine pw_iconst hX (k := 5) rfl (by decide) dX4_sleeps_39 (q := 40) rfl ?_
      refine pw_iconst hX (k := 4) rfl (by decide) dX4_sleeps_40 (q := 41) rfl ?_
      refine pw_iload_n hX rfl dX4_sleeps_41 (q := 42) rfl ?_
      refine pw_imulN hX dX4_sleeps_42 (q := 43) rfl ?_
      refine pw_iaddN hX dX4_sleeps_43 (q := 44) rfl ?_
      refine pw_iconst hX (k := 3) rfl (by decide) dX4_sleeps_44 (q := 45) rfl ?_
      refine pw_iaddN hX dX4_sleeps_45 (q := 46) rfl ?_
      refine pw_aload_n hX rfl dX4_sleeps_46 (q := 47) rfl ?_
      refine pw_getMS hX 0 (by decide) fl_X4_7 rfl dX4_sleeps_47 (q := 50) rfl ?_
      refine pw_iconst hX (k := 1) rfl (by decide) dX4_sleeps_50 (q := 51) rfl ?_
      refine pw_ialdS hX (by omega) dX4_sleeps_51 (q := 52) rfl ?_
      refine pw_iastS hX (by omega) dX4_sleeps_52 (q := 53) rfl ?_
      have hB1 : bS (upN (upN S (5 + 4 * i + 0) 1) (5 + 4 * i + 3) (upN S (5 + 4 * i + 0) 1 1)) := bS_upN (bS_upN hB (by omega) (by decide)) (by omega) (by rw [upN_n _ _ (by omega)]; exact hB.2.2.2.1)
      refine pw_aload_n hX rfl dX4_sleeps_53 (q := 54) rfl ?_
      refine pw_iconst hX (k := 0) rfl (by decide) dX4_sleeps_54 (q := 55) rfl ?_
      refine pw_cvI1 hX dX4_sleeps_55 (q := 58) rfl mi_X4_many ml_X4_61 rcM ⟨rfl, rfl, by decide, by decide⟩ rfl (Nat.le_of_ble_eq_true rfl) (c_X4_many (by decide) hB1) ?_
      refine pw_ireturn hX dX4_sleeps_58 ⟨_, rfl, rfl⟩ ⟨congrArg (fun z => some (Value.int z)) ?_, ?_⟩
      · rw [mSleeps, if_pos h_5, hx, if_pos h_16, upN_n S 1 (show 1 ≠ 5 + 4 * i + 0 by omega)]
      · first | (rw [mSleeps, if_pos h_5, hx, if_pos h_16, upN_n S 1 (show 1 ≠ 5 + 4 * i + 0 by omega)]) | (rw [mSleeps, if_pos h_5, hx, if_neg h_16]) | (rw [mSleeps, if_neg (by simp [h_5])])
    · have h_16 := of_decide_eq_false h_16
      refine pw_ldc hX cn_X4_60 dX4_sleeps_19 (q := 21) rfl ?_
      refine pw_ireturn hX dX4_sleeps_21 ⟨_, rfl, rfl⟩ ⟨congrArg (fun z => some (Value.int z)) ?_, ?_⟩
      · simp only [mSleeps, h_5, hx, if_neg h_16, Bool.false_eq_true, and_true, true_and, and_false, false_and, if_true, if_false, ite_true, ite_false, decide_eq_true_eq, decide_eq_false_iff_not]
      · first | (rw [mSleeps, if_pos h_5, hx, if_pos h_16, upN_n S 1 (show 1 ≠ 5 + 4 * i + 0 by omega)]) | (rw [mSleeps, if_pos h_5, hx, if_neg h_16]) | (rw [mSleeps, if_neg (by simp [h_5])])
  · refine pw_ldc hX cn_X4_40 dX4_sleeps_8 (q := 10) rfl ?_
    refine pw_ireturn hX dX4_sleeps_10 ⟨_, rfl, rfl⟩ ⟨congrArg (fun z => some (Value.int z)) ?_, ?_⟩
    · simp only [mSleeps, h_5, Bool.false_eq_true, and_true, true_and, and_false, false_and, if_true, if_false, ite_true, ite_false, decide_eq_true_eq, decide_eq_false_iff_not]
    · first | (rw [mSleeps, if_pos h_5, hx, if_pos h_16, upN_n S 1 (show 1 ≠ 5 + 4 * i + 0 by omega)]) | (rw [mSleeps, if_pos h_5, hx, if_neg h_16]) | (rw [mSleeps, if_neg (by simp [h_5])])
abbrev rm_X4_sleep : Room := { frames := 3, cells := 0, slots := 0, locals := 66 }
set_option maxHeartbeats 4000000 in
set_option maxRecDepth 20000 in
theorem c_X4_sleep {l : Launch} {g : Geo} {w : WD} {V : Nat → Nat → Nat} {S : Nat → Nat} {v : Int32} (h4 : V 0 4 ≤ 4) (hB : bS S) : CtI l g yX4_sleep cX4_sleep 2 (some .int) rm_X4_sleep [.ref (g_ad g 9 0), .int v] (mW w V S) ((mSleeps S v).2) (mW w (mActed (vA V 3 S) (mSleeps S v).2) (mSleeps S v).1) := by
  refine ct_of mi_X4_sleep.2.2.2.2.2 ⟨rfl, rfl⟩ (List.forall_mem_cons.mpr ⟨rfl, List.forall_mem_cons.mpr ⟨rfl, fun _ h => absurd h List.not_mem_nil⟩⟩) (Nat.le_of_ble_eq_true rfl) (fun P hX => ?_)
  replace hX : Gd l g RX4 cX4_sleep rm_X4_sleep 2 (some .int) _ _ P := hX
  show P (mW w V S) 0 [some (.ref (g_ad g 9 0)), some (.int v)] []
  have h7 := hB.2.2.1
  refine pw_aload_n hX rfl dX4_sleep_0 (q := 1) rfl ?_
  refine pw_cvV0 hX dX4_sleep_1 (q := 4) rfl mi_X4_keeps ml_X4_46 rcM ⟨rfl, rfl, by decide, by decide⟩ rfl (Nat.le_of_ble_eq_true rfl) (c_X4_keeps) ?_
  refine pw_aload_n hX rfl dX4_sleep_4 (q := 5) rfl ?_
  refine pw_aload_n hX rfl dX4_sleep_5 (q := 6) rfl ?_
  refine pw_iload_n hX rfl dX4_sleep_6 (q := 7) rfl ?_
  refine pw_cvI1 hX dX4_sleep_7 (q := 10) rfl mi_X4_sleeps ml_X4_64 rcM ⟨rfl, rfl, by decide, by decide⟩ rfl (Nat.le_of_ble_eq_true rfl) (c_X4_sleeps hB) ?_
  refine pw_cvI1 hX dX4_sleep_10 (q := 13) rfl mi_X4_acted ml_X4_49 rcM ⟨rfl, rfl, by decide, by decide⟩ rfl (Nat.le_of_ble_eq_true rfl) (c_X4_acted (show (vA V 3 S) 0 4 ≤ 4 from h4)) ?_
  refine pw_ireturn hX dX4_sleep_13 ⟨_, rfl, rfl⟩ ⟨congrArg (fun z => some (Value.int z)) ?_, ?_⟩
  · rfl
  · rfl
abbrev rm_X4_wakes : Room := { frames := 2, cells := 0, slots := 0, locals := 43 }
set_option maxHeartbeats 4000000 in
set_option maxRecDepth 20000 in
theorem c_X4_wakes {l : Launch} {g : Geo} {w : WD} {V : Nat → Nat → Nat} {S : Nat → Nat} {v : Int32} (hB : bS S) : CtI l g yX4_wakes cX4_wakes 2 (some .int) rm_X4_wakes [.ref (g_ad g 9 0), .int v] (mW w V S) ((mWakes S v).2) (mW w V (mWakes S v).1) := by
  refine ct_of mi_X4_wakes.2.2.2.2.2 ⟨rfl, rfl⟩ (List.forall_mem_cons.mpr ⟨rfl, List.forall_mem_cons.mpr ⟨rfl, fun _ h => absurd h List.not_mem_nil⟩⟩) (Nat.le_of_ble_eq_true rfl) (fun P hX => ?_)
  replace hX : Gd l g RX4 cX4_wakes rm_X4_wakes 2 (some .int) _ _ P := hX
  show P (mW w V S) 0 [some (.ref (g_ad g 9 0)), some (.int v)] []
  have h7 := hB.2.2.1
  refine pw_aload_n hX rfl dX4_wakes_0 (q := 1) rfl ?_
  refine pw_iload_n hX rfl dX4_wakes_1 (q := 2) rfl ?_
  refine pw_cvI1 hX dX4_wakes_2 (q := 5) rfl mi_X4_isVillager ml_X4_53 rcM ⟨rfl, rfl, by decide, by decide⟩ rfl (Nat.le_of_ble_eq_true rfl) (c_X4_isVillager (by first | assumption | omega)) ?_
  refine pw_ifB_ne hX (tgt := 11) dX4_wakes_5 (q := 8) rfl (by decide) (fun h_5 => ?_) (fun h_5 => ?_)
  · obtain ⟨i, hi, rfl⟩ := hasN_of (by have := hB.2.2.1; omega) h_5
    have hx : ix (nI i) = i := ix_nI (by have := hB.2.2.1; omega)
    have h7 := hB.2.2.1
    refine pw_aload_n hX rfl dX4_wakes_11 (q := 12) rfl ?_
    refine pw_iload_n hX rfl dX4_wakes_12 (q := 13) rfl ?_
    refine pw_iconst hX (k := 0) rfl (by decide) dX4_wakes_13 (q := 14) rfl ?_
    refine pw_cvI2 hX dX4_wakes_14 (q := 17) rfl mi_X4_vi ml_X4_37 rcM ⟨rfl, rfl, by decide, by decide⟩ rfl (Nat.le_of_ble_eq_true rfl) (c_X4_vi (by first | assumption | omega) (by first | assumption | omega)) ?_
    refine pw_iconst hX (k := 1) rfl (by decide) dX4_wakes_17 (q := 18) rfl ?_
    refine pw_icmpN_eq hX (by first | omega | exact bS0 hB | exact bSw hB (by omega) (by omega) (by omega) | exact bSe hB (by omega) (by omega) | exact bS1 hB | exact bS2 hB) (by first | omega | exact bS0 hB | exact bSw hB (by omega) (by omega) (by omega) | exact bSe hB (by omega) (by omega) | exact bS1 hB | exact bS2 hB) (tgt := 24) dX4_wakes_18 (q := 21) rfl (by decide) (fun h_18 => ?_) (fun h_18 => ?_)
    · refine pw_aload_n hX rfl dX4_wakes_24 (q := 25) rfl ?_
      refine pw_getMS hX 0 (by decide) fl_X4_7 rfl dX4_wakes_25 (q := 28) rfl ?_
      refine pw_iconst hX (k := 5) rfl (by decide) dX4_wakes_28 (q := 29) rfl ?_
      refine pw_iconst hX (k := 4) rfl (by decide) dX4_wakes_29 (q := 30) rfl ?_
      refine pw_iload_n hX rfl dX4_wakes_30 (q := 31) rfl ?_
      refine pw_imulN hX dX4_wakes_31 (q := 32) rfl ?_
      refine pw_iaddN hX dX4_wakes_32 (q := 33) rfl ?_
      refine pw_iconst hX (k := 0) rfl (by decide) dX4_wakes_33 (q := 34) rfl ?_
      refine pw_iaddN hX dX4_wakes_34 (q := 35) rfl ?_
      refine pw_iconst hX (k := 0) rfl (by decide) dX4_wakes_35 (q := 36) rfl ?_
      refine pw_iastS hX (by omega) dX4_wakes_36 (q := 37) rfl ?_
      refine pw_aload_n hX rfl dX4_wakes_37 (q := 38) rfl ?_
      refine pw_getMS hX 0 (by decide) fl_X4_7 rfl dX4_wakes_38 (q := 41) rfl ?_
      refine pw_iconst hX (k := 1) rfl (by decide) dX4_wakes_41 (q := 42) rfl ?_
      refine pw_ialdS hX (by omega) dX4_wakes_42 (q := 43) rfl ?_
      refine pw_aload_n hX rfl dX4_wakes_43 (q := 44) rfl ?_
      refine pw_iload_n hX rfl dX4_wakes_44 (q := 45) rfl ?_
      refine pw_iconst hX (k := 3) rfl (by decide) dX4_wakes_45 (q := 46) rfl ?_
      refine pw_cvI2 hX dX4_wakes_46 (q := 49) rfl mi_X4_vi ml_X4_37 rcM ⟨rfl, rfl, by decide, by decide⟩ rfl (Nat.le_of_ble_eq_true rfl) (c_X4_vi (by first | assumption | omega) (by first | assumption | omega)) ?_
      refine pw_isub hX dX4_wakes_49 (q := 50) rfl ?_
      refine pw_ireturn hX dX4_wakes_50 ⟨_, rfl, rfl⟩ ⟨congrArg (fun z => some (Value.int z)) ?_, ?_⟩
      · rw [mWakes, if_pos h_5, hx, if_pos h_18, upN_n S 0 (show 1 ≠ 5 + 4 * i + 0 by omega), upN_n S 0 (show 5 + 4 * i + 3 ≠ 5 + 4 * i + 0 by omega)]
      · first | (rw [mWakes, if_pos h_5, hx, if_pos h_18]) | (rw [mWakes, if_pos h_5, hx, if_neg h_18]) | (rw [mWakes, if_neg (by simp [h_5])])
    · refine pw_ldc hX cn_X4_60 dX4_wakes_21 (q := 23) rfl ?_
      refine pw_ireturn hX dX4_wakes_23 ⟨_, rfl, rfl⟩ ⟨congrArg (fun z => some (Value.int z)) ?_, ?_⟩
      · simp only [mWakes, h_5, hx, if_neg h_18, Bool.false_eq_true, and_true, true_and, and_false, false_and, if_true, if_false, ite_true, ite_false, decide_eq_true_eq, decide_eq_false_iff_not]
      · first | (rw [mWakes, if_pos h_5, hx, if_pos h_18]) | (rw [mWakes, if_pos h_5, hx, if_neg h_18]) | (rw [mWakes, if_neg (by simp [h_5])])
  · refine pw_ldc hX cn_X4_40 dX4_wakes_8 (q := 10) rfl ?_
    refine pw_ireturn hX dX4_wakes_10 ⟨_, rfl, rfl⟩ ⟨congrArg (fun z => some (Value.int z)) ?_, ?_⟩
    · simp only [mWakes, h_5, Bool.false_eq_true, and_true, true_and, and_false, false_and, if_true, if_false, ite_true, ite_false, decide_eq_true_eq, decide_eq_false_iff_not]
    · first | (rw [mWakes, if_pos h_5, hx, if_pos h_18]) | (rw [mWakes, if_pos h_5, hx, if_neg h_18]) | (rw [mWakes, if_neg (by simp [h_5])])
abbrev rm_X4_wake : Room := { frames := 3, cells := 0, slots := 0, locals := 64 }
set_option maxHeartbeats 4000000 in
set_option maxRecDepth 20000 in
theorem c_X4_wake {l : Launch} {g : Geo} {w : WD} {V : Nat → Nat → Nat} {S : Nat → Nat} {v : Int32} (h4 : V 0 4 ≤ 4) (hB : bS S) : CtI l g yX4_wake cX4_wake 2 (some .int) rm_X4_wake [.ref (g_ad g 9 0), .int v] (mW w V S) ((mWakes S v).2) (mW w (mActed (vA V 3 S) (mWakes S v).2) (mWakes S v).1) := by
  refine ct_of mi_X4_wake.2.2.2.2.2 ⟨rfl, rfl⟩ (List.forall_mem_cons.mpr ⟨rfl, List.forall_mem_cons.mpr ⟨rfl, fun _ h => absurd h List.not_mem_nil⟩⟩) (Nat.le_of_ble_eq_true rfl) (fun P hX => ?_)
  replace hX : Gd l g RX4 cX4_wake rm_X4_wake 2 (some .int) _ _ P := hX
  show P (mW w V S) 0 [some (.ref (g_ad g 9 0)), some (.int v)] []
  have h7 := hB.2.2.1
  refine pw_aload_n hX rfl dX4_wake_0 (q := 1) rfl ?_
  refine pw_cvV0 hX dX4_wake_1 (q := 4) rfl mi_X4_keeps ml_X4_46 rcM ⟨rfl, rfl, by decide, by decide⟩ rfl (Nat.le_of_ble_eq_true rfl) (c_X4_keeps) ?_
  refine pw_aload_n hX rfl dX4_wake_4 (q := 5) rfl ?_
  refine pw_aload_n hX rfl dX4_wake_5 (q := 6) rfl ?_
  refine pw_iload_n hX rfl dX4_wake_6 (q := 7) rfl ?_
  refine pw_cvI1 hX dX4_wake_7 (q := 10) rfl mi_X4_wakes ml_X4_67 rcM ⟨rfl, rfl, by decide, by decide⟩ rfl (Nat.le_of_ble_eq_true rfl) (c_X4_wakes hB) ?_
  refine pw_cvI1 hX dX4_wake_10 (q := 13) rfl mi_X4_acted ml_X4_49 rcM ⟨rfl, rfl, by decide, by decide⟩ rfl (Nat.le_of_ble_eq_true rfl) (c_X4_acted (show (vA V 3 S) 0 4 ≤ 4 from h4)) ?_
  refine pw_ireturn hX dX4_wake_13 ⟨_, rfl, rfl⟩ ⟨congrArg (fun z => some (Value.int z)) ?_, ?_⟩
  · rfl
  · rfl
abbrev rm_X4_leave : Room := { frames := 2, cells := 0, slots := 0, locals := 45 }
set_option maxHeartbeats 4000000 in
set_option maxRecDepth 20000 in
theorem c_X4_leave {l : Launch} {g : Geo} {w : WD} {V : Nat → Nat → Nat} {S : Nat → Nat} {v : Int32} (h4 : V 0 4 ≤ 4) (hB : bS S) : CtI l g yX4_leave cX4_leave 3 (some .int) rm_X4_leave [.ref (g_ad g 9 0), .int v] (mW w V S) (mLeave S v) (mW w (mLeaveV V S v) (mLeaveS S v)) := by
  refine ct_of mi_X4_leave.2.2.2.2.2 ⟨rfl, rfl⟩ (List.forall_mem_cons.mpr ⟨rfl, List.forall_mem_cons.mpr ⟨rfl, fun _ h => absurd h List.not_mem_nil⟩⟩) (Nat.le_of_ble_eq_true rfl) (fun P hX => ?_)
  replace hX : Gd l g RX4 cX4_leave rm_X4_leave 3 (some .int) _ _ P := hX
  show P (mW w V S) 0 [some (.ref (g_ad g 9 0)), some (.int v), none] []
  have h7 := hB.2.2.1
  refine pw_aload_n hX rfl dX4_leave_0 (q := 1) rfl ?_
  refine pw_iload_n hX rfl dX4_leave_1 (q := 2) rfl ?_
  refine pw_cvI1 hX dX4_leave_2 (q := 5) rfl mi_X4_isVillager ml_X4_53 rcM ⟨rfl, rfl, by decide, by decide⟩ rfl (Nat.le_of_ble_eq_true rfl) (c_X4_isVillager (by first | assumption | omega)) ?_
  refine pw_ifB_ne hX (tgt := 11) dX4_leave_5 (q := 8) rfl (by decide) (fun h_5 => ?_) (fun h_5 => ?_)
  · obtain ⟨i, hi, rfl⟩ := hasN_of (by have := hB.2.2.1; omega) h_5
    have hx : ix (nI i) = i := ix_nI (by have := hB.2.2.1; omega)
    have h7 := hB.2.2.1
    refine pw_aload_n hX rfl dX4_leave_11 (q := 12) rfl ?_
    refine pw_iload_n hX rfl dX4_leave_12 (q := 13) rfl ?_
    refine pw_cvI1 hX dX4_leave_13 (q := 16) rfl mi_X4_isGone ml_X4_70 rcM ⟨rfl, rfl, by decide, by decide⟩ rfl (Nat.le_of_ble_eq_true rfl) (c_X4_isGone (by first | assumption | omega) (by first | assumption | omega)) ?_
    refine pw_ifB_eq hX (tgt := 22) dX4_leave_16 (q := 19) rfl (by decide) (fun h_16 => ?_) (fun h_16 => ?_)
    · have h_16 := of_decide_eq_false h_16
      refine pw_aload_n hX rfl dX4_leave_22 (q := 23) rfl ?_
      refine pw_cvV0 hX dX4_leave_23 (q := 26) rfl mi_X4_keeps ml_X4_46 rcM ⟨rfl, rfl, by decide, by decide⟩ rfl (Nat.le_of_ble_eq_true rfl) (c_X4_keeps) ?_
      refine pw_aload_n hX rfl dX4_leave_26 (q := 27) rfl ?_
      refine pw_getMS hX 0 (by decide) fl_X4_7 rfl dX4_leave_27 (q := 30) rfl ?_
      refine pw_iconst hX (k := 5) rfl (by decide) dX4_leave_30 (q := 31) rfl ?_
      refine pw_iconst hX (k := 4) rfl (by decide) dX4_leave_31 (q := 32) rfl ?_
      refine pw_iload_n hX rfl dX4_leave_32 (q := 33) rfl ?_
      refine pw_imulN hX dX4_leave_33 (q := 34) rfl ?_
      refine pw_iaddN hX dX4_leave_34 (q := 35) rfl ?_
      refine pw_iconst hX (k := 0) rfl (by decide) dX4_leave_35 (q := 36) rfl ?_
      refine pw_iaddN hX dX4_leave_36 (q := 37) rfl ?_
      refine pw_iconst hX (k := 2) rfl (by decide) dX4_leave_37 (q := 38) rfl ?_
      refine pw_iastS hX (by omega) dX4_leave_38 (q := 39) rfl ?_
      refine pw_iconst hX (k := 0) rfl (by decide) dX4_leave_39 (q := 40) rfl ?_
      refine pw_istore_n hX (by decide) dX4_leave_40 (q := 41) rfl ?_
      suffices L : ∀ t, t ≤ 12 → P (mW w (vA V 3 S) (zE (upN S (5 + 4 * i + 0) 2) i t)) 41 [some (.ref (g_ad g 9 0)), some (.int (nI i)), some (.int (nI t))] [] by have h9 := L 0 (Nat.zero_le _); rw [zE_0] at h9; exact h9
      refine loopUp (fun t ht ih => ?_)
      refine pw_iload_n hX rfl dX4_leave_41 (q := 42) rfl ?_
      refine pw_bipush hX (k := 12) (by decide) dX4_leave_42 (q := 44) rfl ?_
      refine pw_icmpN_ge hX (by first | omega | exact bS0 hB | exact bSw hB (by omega) (by omega) (by omega) | exact bSe hB (by omega) (by omega) | exact bS1 hB | exact bS2 hB) (by first | omega | exact bS0 hB | exact bSw hB (by omega) (by omega) (by omega) | exact bSe hB (by omega) (by omega) | exact bS1 hB | exact bS2 hB) (tgt := 64) dX4_leave_44 (q := 47) rfl (by decide) (fun h_44 => ?_) (fun h_44 => ?_)
      · have e4 : t = 12 := by omega
        subst e4
        have hB1 : bS (zE (upN S (5 + 4 * i + 0) 2) i 12) := bS_le (bS_upN hB (by omega) (by decide)) (fun j => zE_le _ _ _ _)
        have hm0 := cnt_le (fun v => decide (zE (upN S (5 + 4 * i + 0) 2) i 12 (5 + 4 * v + 0) = 0)) (zE (upN S (5 + 4 * i + 0) 2) i 12 0)
        have hm1 := cnt_le (fun v => decide (zE (upN S (5 + 4 * i + 0) 2) i 12 (5 + 4 * v + 0) = 1)) (zE (upN S (5 + 4 * i + 0) 2) i 12 0)
        have hn7 := hB1.2.2.1
        refine pw_aload_n hX rfl dX4_leave_64 (q := 65) rfl ?_
        refine pw_aload_n hX rfl dX4_leave_65 (q := 66) rfl ?_
        refine pw_iconst hX (k := 0) rfl (by decide) dX4_leave_66 (q := 67) rfl ?_
        refine pw_cvI1 hX dX4_leave_67 (q := 70) rfl mi_X4_many ml_X4_61 rcM ⟨rfl, rfl, by decide, by decide⟩ rfl (Nat.le_of_ble_eq_true rfl) (c_X4_many (by decide) hB1) ?_
        refine pw_aload_n hX rfl dX4_leave_70 (q := 71) rfl ?_
        refine pw_iconst hX (k := 1) rfl (by decide) dX4_leave_71 (q := 72) rfl ?_
        refine pw_cvI1 hX dX4_leave_72 (q := 75) rfl mi_X4_many ml_X4_61 rcM ⟨rfl, rfl, by decide, by decide⟩ rfl (Nat.le_of_ble_eq_true rfl) (c_X4_many (by decide) hB1) ?_
        refine pw_iaddN hX dX4_leave_75 (q := 76) rfl ?_
        refine pw_cvI1 hX dX4_leave_76 (q := 79) rfl mi_X4_acted ml_X4_49 rcM ⟨rfl, rfl, by decide, by decide⟩ rfl (Nat.le_of_ble_eq_true rfl) (c_X4_acted (show (vA V 3 S) 0 4 ≤ 4 from h4)) ?_
        refine pw_ireturn hX dX4_leave_79 ⟨_, rfl, rfl⟩ ⟨congrArg (fun z => some (Value.int z)) ?_, ?_⟩
        · rw [mLeave, if_pos h_5, hx, if_neg h_16]; rfl
        · first | (rw [mLeaveV, mLeaveS, if_pos h_5, if_pos h_5, hx, if_neg h_16, if_neg h_16, mActed_n _ (by unfold mMany; omega)]; rfl) | (rw [mLeaveV, mLeaveS, if_pos h_5, if_pos h_5, hx, if_pos h_16, if_pos h_16]) | (rw [mLeaveV, mLeaveS, if_neg (by simp [h_5]), if_neg (by simp [h_5])])
      · refine pw_aload_n hX rfl dX4_leave_47 (q := 48) rfl ?_
        refine pw_getMS hX 0 (by decide) fl_X4_7 rfl dX4_leave_48 (q := 51) rfl ?_
        refine pw_iload_n hX rfl dX4_leave_51 (q := 52) rfl ?_
        refine pw_iload_n hX rfl dX4_leave_52 (q := 53) rfl ?_
        refine pw_csI2 hX dX4_leave_53 (q := 56) rfl mi_X4_place ml_X4_29 ⟨rfl, rfl, by decide, by decide⟩ rfl (Nat.le_of_ble_eq_true rfl) (c_X4_place) ?_
        refine pw_iconst hX (k := 0) rfl (by decide) dX4_leave_56 (q := 57) rfl ?_
        refine pw_iastS hX (by omega) dX4_leave_57 (q := 58) rfl ?_
        refine pw_iinc hX rfl (by decide) (inc1 _) dX4_leave_58 (q := 61) rfl ?_
        refine pw_goto hX (tgt := 41) dX4_leave_61 (by decide) ?_
        exact pw_eq (by rw [zE_s]) rfl rfl (ih (by omega))
    · have h_16 := of_decide_eq_true h_16
      refine pw_ldc hX cn_X4_60 dX4_leave_19 (q := 21) rfl ?_
      refine pw_ireturn hX dX4_leave_21 ⟨_, rfl, rfl⟩ ⟨congrArg (fun z => some (Value.int z)) ?_, ?_⟩
      · simp only [mLeave, h_5, hx, if_pos h_16, Bool.false_eq_true, and_true, true_and, and_false, false_and, if_true, if_false, ite_true, ite_false, decide_eq_true_eq, decide_eq_false_iff_not]
      · first | (rw [mLeaveV, mLeaveS, if_pos h_5, if_pos h_5, hx, if_neg h_16, if_neg h_16, mActed_n _ (by unfold mMany; omega)]; rfl) | (rw [mLeaveV, mLeaveS, if_pos h_5, if_pos h_5, hx, if_pos h_16, if_pos h_16]) | (rw [mLeaveV, mLeaveS, if_neg (by simp [h_5]), if_neg (by simp [h_5])])
  · refine pw_ldc hX cn_X4_40 dX4_leave_8 (q := 10) rfl ?_
    refine pw_ireturn hX dX4_leave_10 ⟨_, rfl, rfl⟩ ⟨congrArg (fun z => some (Value.int z)) ?_, ?_⟩
    · simp only [mLeave, h_5, Bool.false_eq_true, and_true, true_and, and_false, false_and, if_true, if_false, ite_true, ite_false, decide_eq_true_eq, decide_eq_false_iff_not]
    · first | (rw [mLeaveV, mLeaveS, if_pos h_5, if_pos h_5, hx, if_neg h_16, if_neg h_16, mActed_n _ (by unfold mMany; omega)]; rfl) | (rw [mLeaveV, mLeaveS, if_pos h_5, if_pos h_5, hx, if_pos h_16, if_pos h_16]) | (rw [mLeaveV, mLeaveS, if_neg (by simp [h_5]), if_neg (by simp [h_5])])
abbrev rm_X4_watch : Room := { frames := 1, cells := 0, slots := 0, locals := 22 }
set_option maxHeartbeats 4000000 in
set_option maxRecDepth 20000 in
theorem c_X4_watch {l : Launch} {g : Geo} {w : WD} {V : Nat → Nat → Nat} {S : Nat → Nat} {v : Int32} (h4 : V 0 4 ≤ 4) (hB : bS S) : CtI l g yX4_watch cX4_watch 3 (some .int) rm_X4_watch [.ref (g_ad g 9 0), .int v] (mW w V S) (if inN 1 60 v = true then nI (S 2) else -1000001) (if inN 1 60 v = true then mW w (mPush (vA V 3 S)) (upN S 2 (ix v)) else mW w V S) := by
  refine ct_of mi_X4_watch.2.2.2.2.2 ⟨rfl, rfl⟩ (List.forall_mem_cons.mpr ⟨rfl, List.forall_mem_cons.mpr ⟨rfl, fun _ h => absurd h List.not_mem_nil⟩⟩) (Nat.le_of_ble_eq_true rfl) (fun P hX => ?_)
  replace hX : Gd l g RX4 cX4_watch rm_X4_watch 3 (some .int) _ _ P := hX
  show P (mW w V S) 0 [some (.ref (g_ad g 9 0)), some (.int v), none] []
  have h7 := hB.2.2.1
  refine pw_iload_n hX rfl dX4_watch_0 (q := 1) rfl ?_
  refine pw_iconst hX (k := 1) rfl (by decide) dX4_watch_1 (q := 2) rfl ?_
  refine pw_bipush hX (k := 60) (by decide) dX4_watch_2 (q := 4) rfl ?_
  refine pw_csI3 hX dX4_watch_4 (q := 7) rfl mi_X4_in ml_X4_33 ⟨rfl, rfl, by decide, by decide⟩ rfl (Nat.le_of_ble_eq_true rfl) (c_X4_inN (by decide) (by decide)) ?_
  refine pw_ifB_ne hX (tgt := 13) dX4_watch_7 (q := 10) rfl (by decide) (fun h_7 => ?_) (fun h_7 => ?_)
  · obtain ⟨i, hi0, hi, rfl⟩ := inN_of (by decide) h_7
    have hx : ix (nI i) = i := ix_nI (by omega)
    refine pw_aload_n hX rfl dX4_watch_13 (q := 14) rfl ?_
    refine pw_cvV0 hX dX4_watch_14 (q := 17) rfl mi_X4_keeps ml_X4_46 rcM ⟨rfl, rfl, by decide, by decide⟩ rfl (Nat.le_of_ble_eq_true rfl) (c_X4_keeps) ?_
    refine pw_aload_n hX rfl dX4_watch_17 (q := 18) rfl ?_
    refine pw_getMS hX 0 (by decide) fl_X4_7 rfl dX4_watch_18 (q := 21) rfl ?_
    refine pw_iconst hX (k := 2) rfl (by decide) dX4_watch_21 (q := 22) rfl ?_
    refine pw_ialdS hX (by omega) dX4_watch_22 (q := 23) rfl ?_
    refine pw_istore_n hX (by decide) dX4_watch_23 (q := 24) rfl ?_
    refine pw_aload_n hX rfl dX4_watch_24 (q := 25) rfl ?_
    refine pw_getMS hX 0 (by decide) fl_X4_7 rfl dX4_watch_25 (q := 28) rfl ?_
    refine pw_iconst hX (k := 2) rfl (by decide) dX4_watch_28 (q := 29) rfl ?_
    refine pw_iload_n hX rfl dX4_watch_29 (q := 30) rfl ?_
    refine pw_iastS hX (by omega) dX4_watch_30 (q := 31) rfl ?_
    refine pw_aload_n hX rfl dX4_watch_31 (q := 32) rfl ?_
    refine pw_iload_n hX rfl dX4_watch_32 (q := 33) rfl ?_
    refine pw_cvI1 hX dX4_watch_33 (q := 36) rfl mi_X4_acted ml_X4_49 rcM ⟨rfl, rfl, by decide, by decide⟩ rfl (Nat.le_of_ble_eq_true rfl) (c_X4_acted (show (vA V 3 S) 0 4 ≤ 4 from h4)) ?_
    refine pw_ireturn hX dX4_watch_36 ⟨_, rfl, rfl⟩ ⟨congrArg (fun z => some (Value.int z)) ?_, ?_⟩
    · rw [if_pos h_7]
    · first | (rw [if_pos h_7, mActed_n _ (bS2 hB), hx]) | (rw [if_neg (by simp [h_7])])
  · refine pw_ldc hX cn_X4_40 dX4_watch_10 (q := 12) rfl ?_
    refine pw_ireturn hX dX4_watch_12 ⟨_, rfl, rfl⟩ ⟨congrArg (fun z => some (Value.int z)) ?_, ?_⟩
    · rw [if_neg (by simp [h_7])]
    · first | (rw [if_pos h_7, mActed_n _ (bS2 hB), hx]) | (rw [if_neg (by simp [h_7])])
abbrev rm_X4_topics : Room := { frames := 2, cells := 0, slots := 0, locals := 44 }
set_option maxHeartbeats 4000000 in
set_option maxRecDepth 20000 in
theorem c_X4_topics {l : Launch} {g : Geo} {w : WD} {V : Nat → Nat → Nat} {S : Nat → Nat} {i a : Nat} (hi : i < 7) (ha : a < 2 ^ 31) (hB : bS S) : CtI l g yX4_topics cX4_topics 5 (some .int) rm_X4_topics [.ref (g_ad g 9 0), .int (nI i), .int (nI a)] (mW w V S) (nI (mTopics S i a)) (mW w V S) := by
  refine ct_of mi_X4_topics.2.2.2.2.2 ⟨rfl, rfl⟩ (List.forall_mem_cons.mpr ⟨rfl, List.forall_mem_cons.mpr ⟨rfl, List.forall_mem_cons.mpr ⟨rfl, fun _ h => absurd h List.not_mem_nil⟩⟩⟩) (Nat.le_of_ble_eq_true rfl) (fun P hX => ?_)
  replace hX : Gd l g RX4 cX4_topics rm_X4_topics 5 (some .int) _ _ P := hX
  show P (mW w V S) 0 [some (.ref (g_ad g 9 0)), some (.int (nI i)), some (.int (nI a)), none, none] []
  have h7 := hB.2.2.1
  refine pw_iconst hX (k := 0) rfl (by decide) dX4_topics_0 (q := 1) rfl ?_
  refine pw_istore_n hX (by decide) dX4_topics_1 (q := 2) rfl ?_
  refine pw_iconst hX (k := 0) rfl (by decide) dX4_topics_2 (q := 3) rfl ?_
  refine pw_istore hX (by decide) dX4_topics_3 (q := 5) rfl ?_
  suffices L : ∀ t, t ≤ 12 → P (mW w V S) 5 [some (.ref (g_ad g 9 0)), some (.int (nI i)), some (.int (nI a)), some (.int (nI (bits (fun t => decide (S (225 + 84 * i + 7 * t + 0) = a)) t))), some (.int (nI t))] [] by exact L 0 (Nat.zero_le _)
  refine loopUp (fun t ht ih => ?_)
  refine pw_iload hX rfl dX4_topics_5 (q := 7) rfl ?_
  refine pw_bipush hX (k := 12) (by decide) dX4_topics_7 (q := 9) rfl ?_
  refine pw_icmpN_ge hX (by first | omega | exact bS0 hB | exact bSw hB (by omega) (by omega) (by omega) | exact bSe hB (by omega) (by omega) | exact bS1 hB | exact bS2 hB) (by first | omega | exact bS0 hB | exact bSw hB (by omega) (by omega) (by omega) | exact bSe hB (by omega) (by omega) | exact bS1 hB | exact bS2 hB) (tgt := 41) dX4_topics_9 (q := 12) rfl (by decide) (fun h_9 => ?_) (fun h_9 => ?_)
  · refine pw_iload_n hX rfl dX4_topics_41 (q := 42) rfl ?_
    refine pw_ireturn hX dX4_topics_42 ⟨_, rfl, rfl⟩ ⟨congrArg (fun z => some (Value.int z)) ?_, ?_⟩
    · rw [show t = 12 by omega]; rfl
    · rfl
  · refine pw_iload_n hX rfl dX4_topics_12 (q := 13) rfl ?_
    refine pw_aload_n hX rfl dX4_topics_13 (q := 14) rfl ?_
    refine pw_iload_n hX rfl dX4_topics_14 (q := 15) rfl ?_
    refine pw_iload hX rfl dX4_topics_15 (q := 17) rfl ?_
    refine pw_iconst hX (k := 0) rfl (by decide) dX4_topics_17 (q := 18) rfl ?_
    refine pw_cvI3 hX dX4_topics_18 (q := 21) rfl mi_X4_en ml_X4_73 rcM ⟨rfl, rfl, by decide, by decide⟩ rfl (Nat.le_of_ble_eq_true rfl) (c_X4_en (by first | assumption | omega) (by first | assumption | omega) (by first | assumption | omega)) ?_
    refine pw_iload_n hX rfl dX4_topics_21 (q := 22) rfl ?_
    refine pw_icmpN_ne hX (by first | omega | exact bS0 hB | exact bSw hB (by omega) (by omega) (by omega) | exact bSe hB (by omega) (by omega) | exact bS1 hB | exact bS2 hB) (by first | omega | exact bS0 hB | exact bSw hB (by omega) (by omega) (by omega) | exact bSe hB (by omega) (by omega) | exact bS1 hB | exact bS2 hB) (tgt := 32) dX4_topics_22 (q := 25) rfl (by decide) (fun h_22 => ?_) (fun h_22 => ?_)
    · refine pw_iconst hX (k := 0) rfl (by decide) dX4_topics_32 (q := 33) rfl ?_
      refine pw_iorN hX dX4_topics_33 (q := 34) rfl ?_
      refine pw_istore_n hX (by decide) dX4_topics_34 (q := 35) rfl ?_
      refine pw_iinc hX rfl (by decide) (inc1 _) dX4_topics_35 (q := 38) rfl ?_
      refine pw_goto hX (tgt := 5) dX4_topics_38 (by decide) ?_
      exact pw_eq rfl (by simp_all [lst, bits]) rfl (ih (by omega))
    · refine pw_iconst hX (k := 1) rfl (by decide) dX4_topics_25 (q := 26) rfl ?_
      refine pw_iload hX rfl dX4_topics_26 (q := 28) rfl ?_
      refine pw_ishl1 hX (by omega) dX4_topics_28 (q := 29) rfl ?_
      refine pw_goto hX (tgt := 33) dX4_topics_29 (by decide) ?_
      refine pw_iorN hX dX4_topics_33 (q := 34) rfl ?_
      refine pw_istore_n hX (by decide) dX4_topics_34 (q := 35) rfl ?_
      refine pw_iinc hX rfl (by decide) (inc1 _) dX4_topics_35 (q := 38) rfl ?_
      refine pw_goto hX (tgt := 5) dX4_topics_38 (by decide) ?_
      exact pw_eq rfl (by simp_all [lst, bits]) rfl (ih (by omega))
abbrev rm_X4_villagerOf : Room := { frames := 3, cells := 0, slots := 0, locals := 68 }
set_option maxHeartbeats 4000000 in
set_option maxRecDepth 20000 in
theorem c_X4_villagerOf {l : Launch} {g : Geo} {w : WD} {V : Nat → Nat → Nat} {S : Nat → Nat} {v a : Int32} (hB : bS S) : CtI l g yX4_villagerOf cX4_villagerOf 3 (some .int) rm_X4_villagerOf [.ref (g_ad g 9 0), .int v, .int a] (mW w V S) (mVOf S v a) (mW w V S) := by
  refine ct_of mi_X4_villagerOf.2.2.2.2.2 ⟨rfl, rfl⟩ (List.forall_mem_cons.mpr ⟨rfl, List.forall_mem_cons.mpr ⟨rfl, List.forall_mem_cons.mpr ⟨rfl, fun _ h => absurd h List.not_mem_nil⟩⟩⟩) (Nat.le_of_ble_eq_true rfl) (fun P hX => ?_)
  replace hX : Gd l g RX4 cX4_villagerOf rm_X4_villagerOf 3 (some .int) _ _ P := hX
  show P (mW w V S) 0 [some (.ref (g_ad g 9 0)), some (.int v), some (.int a)] []
  have h7 := hB.2.2.1
  refine pw_aload_n hX rfl dX4_villagerOf_0 (q := 1) rfl ?_
  refine pw_iload_n hX rfl dX4_villagerOf_1 (q := 2) rfl ?_
  refine pw_cvI1 hX dX4_villagerOf_2 (q := 5) rfl mi_X4_isVillager ml_X4_53 rcM ⟨rfl, rfl, by decide, by decide⟩ rfl (Nat.le_of_ble_eq_true rfl) (c_X4_isVillager (by first | assumption | omega)) ?_
  refine pw_ifB_eq hX (tgt := 17) dX4_villagerOf_5 (q := 8) rfl (by decide) (fun h_5 => ?_) (fun h_5 => ?_)
  · refine pw_ldc hX cn_X4_40 dX4_villagerOf_17 (q := 19) rfl ?_
    refine pw_ireturn hX dX4_villagerOf_19 ⟨_, rfl, rfl⟩ ⟨congrArg (fun z => some (Value.int z)) ?_, ?_⟩
    · rw [mVOf, if_neg (by rintro ⟨a1, a2⟩; simp_all)]
    · rfl
  · obtain ⟨i, hi, rfl⟩ := hasN_of (by have := hB.2.2.1; omega) h_5
    have hx : ix (nI i) = i := ix_nI (by have := hB.2.2.1; omega)
    have h7 := hB.2.2.1
    refine pw_iload_n hX rfl dX4_villagerOf_8 (q := 9) rfl ?_
    refine pw_iconst hX (k := 0) rfl (by decide) dX4_villagerOf_9 (q := 10) rfl ?_
    refine pw_iconst hX (k := 5) rfl (by decide) dX4_villagerOf_10 (q := 11) rfl ?_
    refine pw_csI3 hX dX4_villagerOf_11 (q := 14) rfl mi_X4_in ml_X4_33 ⟨rfl, rfl, by decide, by decide⟩ rfl (Nat.le_of_ble_eq_true rfl) (c_X4_inN (by decide) (by decide)) ?_
    refine pw_ifB_ne hX (tgt := 20) dX4_villagerOf_14 (q := 17) rfl (by decide) (fun h_14 => ?_) (fun h_14 => ?_)
    · obtain ⟨k, -, hk, rfl⟩ := inN_of (by decide) h_14
      have hxk : ix (nI k) = k := ix_nI (by omega)
      refine pw_iload_n hX rfl dX4_villagerOf_20 (q := 21) rfl ?_
      rcases (show k = 2 ∨ k = 3 ∨ k = 4 ∨ k = 5 ∨ k = 0 ∨ k = 1 by omega) with rfl | rfl | rfl | rfl | rfl | rfl
      · refine pw_tabIn hX (tgt := 52) (off := 31) dX4_villagerOf_21 (by decide) (by decide) (by decide) (by decide) ?_
        refine pw_aload_n hX rfl dX4_villagerOf_52 (q := 53) rfl ?_
        refine pw_iload_n hX rfl dX4_villagerOf_53 (q := 54) rfl ?_
        refine pw_iload_n hX rfl dX4_villagerOf_54 (q := 55) rfl ?_
        refine pw_iconst hX (k := 1) rfl (by decide) dX4_villagerOf_55 (q := 56) rfl ?_
        refine pw_isubN hX (by first | assumption | omega) dX4_villagerOf_56 (q := 57) rfl ?_
        refine pw_cvI2 hX dX4_villagerOf_57 (q := 60) rfl mi_X4_topics ml_X4_77 rcM ⟨rfl, rfl, by decide, by decide⟩ rfl (Nat.le_of_ble_eq_true rfl) (c_X4_topics (by omega) (by decide) hB) ?_
        refine pw_ireturn hX dX4_villagerOf_60 ⟨_, rfl, rfl⟩ ⟨congrArg (fun z => some (Value.int z)) ?_, ?_⟩
        · rw [mVOf, if_pos ⟨h_5, h_14⟩, hx, hxk]; rfl
        · rfl
      · refine pw_tabIn hX (tgt := 52) (off := 31) dX4_villagerOf_21 (by decide) (by decide) (by decide) (by decide) ?_
        refine pw_aload_n hX rfl dX4_villagerOf_52 (q := 53) rfl ?_
        refine pw_iload_n hX rfl dX4_villagerOf_53 (q := 54) rfl ?_
        refine pw_iload_n hX rfl dX4_villagerOf_54 (q := 55) rfl ?_
        refine pw_iconst hX (k := 1) rfl (by decide) dX4_villagerOf_55 (q := 56) rfl ?_
        refine pw_isubN hX (by first | assumption | omega) dX4_villagerOf_56 (q := 57) rfl ?_
        refine pw_cvI2 hX dX4_villagerOf_57 (q := 60) rfl mi_X4_topics ml_X4_77 rcM ⟨rfl, rfl, by decide, by decide⟩ rfl (Nat.le_of_ble_eq_true rfl) (c_X4_topics (by omega) (by decide) hB) ?_
        refine pw_ireturn hX dX4_villagerOf_60 ⟨_, rfl, rfl⟩ ⟨congrArg (fun z => some (Value.int z)) ?_, ?_⟩
        · rw [mVOf, if_pos ⟨h_5, h_14⟩, hx, hxk]; rfl
        · rfl
      · refine pw_tabIn hX (tgt := 61) (off := 40) dX4_villagerOf_21 (by decide) (by decide) (by decide) (by decide) ?_
        refine pw_aload_n hX rfl dX4_villagerOf_61 (q := 62) rfl ?_
        refine pw_iload_n hX rfl dX4_villagerOf_62 (q := 63) rfl ?_
        refine pw_iconst hX (k := 2) rfl (by decide) dX4_villagerOf_63 (q := 64) rfl ?_
        refine pw_cvI2 hX dX4_villagerOf_64 (q := 67) rfl mi_X4_vi ml_X4_37 rcM ⟨rfl, rfl, by decide, by decide⟩ rfl (Nat.le_of_ble_eq_true rfl) (c_X4_vi (by first | assumption | omega) (by first | assumption | omega)) ?_
        refine pw_ireturn hX dX4_villagerOf_67 ⟨_, rfl, rfl⟩ ⟨congrArg (fun z => some (Value.int z)) ?_, ?_⟩
        · rw [mVOf, if_pos ⟨h_5, h_14⟩, hx, hxk]; rfl
        · rfl
      · refine pw_tabIn hX (tgt := 68) (off := 47) dX4_villagerOf_21 (by decide) (by decide) (by decide) (by decide) ?_
        refine pw_aload_n hX rfl dX4_villagerOf_68 (q := 69) rfl ?_
        refine pw_iload_n hX rfl dX4_villagerOf_69 (q := 70) rfl ?_
        refine pw_iconst hX (k := 0) rfl (by decide) dX4_villagerOf_70 (q := 71) rfl ?_
        refine pw_cvI2 hX dX4_villagerOf_71 (q := 74) rfl mi_X4_vi ml_X4_37 rcM ⟨rfl, rfl, by decide, by decide⟩ rfl (Nat.le_of_ble_eq_true rfl) (c_X4_vi (by first | assumption | omega) (by first | assumption | omega)) ?_
        refine pw_iconst hX (k := 1) rfl (by decide) dX4_villagerOf_74 (q := 75) rfl ?_
        refine pw_icmpN_ne hX (by first | omega | exact bS0 hB | exact bSw hB (by omega) (by omega) (by omega) | exact bSe hB (by omega) (by omega) | exact bS1 hB | exact bS2 hB) (by first | omega | exact bS0 hB | exact bSw hB (by omega) (by omega) (by omega) | exact bSe hB (by omega) (by omega) | exact bS1 hB | exact bS2 hB) (tgt := 94) dX4_villagerOf_75 (q := 78) rfl (by decide) (fun h_75 => ?_) (fun h_75 => ?_)
        · refine pw_ldc hX cn_X4_80 dX4_villagerOf_94 (q := 96) rfl ?_
          refine pw_ireturn hX dX4_villagerOf_96 ⟨_, rfl, rfl⟩ ⟨congrArg (fun z => some (Value.int z)) ?_, ?_⟩
          · rw [mVOf, if_pos ⟨h_5, h_14⟩, hx, hxk, if_neg (by decide), if_neg (by decide), if_pos rfl]; first | rw [if_pos h_75] | rw [if_neg h_75]
          · rfl
        · refine pw_aload_n hX rfl dX4_villagerOf_78 (q := 79) rfl ?_
          refine pw_getMS hX 0 (by decide) fl_X4_7 rfl dX4_villagerOf_79 (q := 82) rfl ?_
          refine pw_iconst hX (k := 1) rfl (by decide) dX4_villagerOf_82 (q := 83) rfl ?_
          refine pw_ialdS hX (by omega) dX4_villagerOf_83 (q := 84) rfl ?_
          refine pw_aload_n hX rfl dX4_villagerOf_84 (q := 85) rfl ?_
          refine pw_iload_n hX rfl dX4_villagerOf_85 (q := 86) rfl ?_
          refine pw_iconst hX (k := 3) rfl (by decide) dX4_villagerOf_86 (q := 87) rfl ?_
          refine pw_cvI2 hX dX4_villagerOf_87 (q := 90) rfl mi_X4_vi ml_X4_37 rcM ⟨rfl, rfl, by decide, by decide⟩ rfl (Nat.le_of_ble_eq_true rfl) (c_X4_vi (by first | assumption | omega) (by first | assumption | omega)) ?_
          refine pw_isub hX dX4_villagerOf_90 (q := 91) rfl ?_
          refine pw_goto hX (tgt := 96) dX4_villagerOf_91 (by decide) ?_
          refine pw_ireturn hX dX4_villagerOf_96 ⟨_, rfl, rfl⟩ ⟨congrArg (fun z => some (Value.int z)) ?_, ?_⟩
          · rw [mVOf, if_pos ⟨h_5, h_14⟩, hx, hxk, if_neg (by decide), if_neg (by decide), if_pos rfl]; first | rw [if_pos h_75] | rw [if_neg h_75]
          · rfl
      · refine pw_tabOut hX (tgt := 97) dX4_villagerOf_21 (by decide) (by decide) ?_
        refine pw_aload_n hX rfl dX4_villagerOf_97 (q := 98) rfl ?_
        refine pw_iload_n hX rfl dX4_villagerOf_98 (q := 99) rfl ?_
        refine pw_iload_n hX rfl dX4_villagerOf_99 (q := 100) rfl ?_
        refine pw_cvI2 hX dX4_villagerOf_100 (q := 103) rfl mi_X4_vi ml_X4_37 rcM ⟨rfl, rfl, by decide, by decide⟩ rfl (Nat.le_of_ble_eq_true rfl) (c_X4_vi (by first | assumption | omega) (by first | assumption | omega)) ?_
        refine pw_ireturn hX dX4_villagerOf_103 ⟨_, rfl, rfl⟩ ⟨congrArg (fun z => some (Value.int z)) ?_, ?_⟩
        · rw [mVOf, if_pos ⟨h_5, h_14⟩, hx, hxk]; rfl
        · rfl
      · refine pw_tabOut hX (tgt := 97) dX4_villagerOf_21 (by decide) (by decide) ?_
        refine pw_aload_n hX rfl dX4_villagerOf_97 (q := 98) rfl ?_
        refine pw_iload_n hX rfl dX4_villagerOf_98 (q := 99) rfl ?_
        refine pw_iload_n hX rfl dX4_villagerOf_99 (q := 100) rfl ?_
        refine pw_cvI2 hX dX4_villagerOf_100 (q := 103) rfl mi_X4_vi ml_X4_37 rcM ⟨rfl, rfl, by decide, by decide⟩ rfl (Nat.le_of_ble_eq_true rfl) (c_X4_vi (by first | assumption | omega) (by first | assumption | omega)) ?_
        refine pw_ireturn hX dX4_villagerOf_103 ⟨_, rfl, rfl⟩ ⟨congrArg (fun z => some (Value.int z)) ?_, ?_⟩
        · rw [mVOf, if_pos ⟨h_5, h_14⟩, hx, hxk]; rfl
        · rfl
    · refine pw_ldc hX cn_X4_40 dX4_villagerOf_17 (q := 19) rfl ?_
      refine pw_ireturn hX dX4_villagerOf_19 ⟨_, rfl, rfl⟩ ⟨congrArg (fun z => some (Value.int z)) ?_, ?_⟩
      · rw [mVOf, if_neg (by rintro ⟨a1, a2⟩; simp_all)]
      · rfl
abbrev rm_X4_isNewer : Room := { frames := 0, cells := 0, slots := 0, locals := 0 }
set_option maxHeartbeats 4000000 in
set_option maxRecDepth 20000 in
theorem c_X4_isNewer {l : Launch} {g : Geo} {w : WD} {a b c d : Nat} (ha : a < 2 ^ 31) (hb : b < 2 ^ 31) (hc : c < 2 ^ 31) (hd : d < 2 ^ 31) : CtI l g yX4_isNewer cX4_isNewer 4 (some .boolean) rm_X4_isNewer [.int (nI a), .int (nI b), .int (nI c), .int (nI d)] (w) (bI (mNewer a b c d)) (w) := by
  refine ct_of mi_X4_isNewer.2.2.2.2 ⟨rfl, rfl⟩ (List.forall_mem_cons.mpr ⟨rfl, List.forall_mem_cons.mpr ⟨rfl, List.forall_mem_cons.mpr ⟨rfl, List.forall_mem_cons.mpr ⟨rfl, fun _ h => absurd h List.not_mem_nil⟩⟩⟩⟩) (Nat.le_of_ble_eq_true rfl) (fun P hX => ?_)
  replace hX : Gd l g RX4 cX4_isNewer rm_X4_isNewer 4 (some .boolean) _ _ P := hX
  show P (w) 0 [some (.int (nI a)), some (.int (nI b)), some (.int (nI c)), some (.int (nI d))] []
  refine pw_iload_n hX rfl dX4_isNewer_0 (q := 1) rfl ?_
  refine pw_iload_n hX rfl dX4_isNewer_1 (q := 2) rfl ?_
  refine pw_icmpN_gt hX (by omega) (by omega) (tgt := 15) dX4_isNewer_2 (q := 5) rfl (by decide) (fun h_2 => ?_) (fun h_2 => ?_)
  · refine pw_iconst hX (k := 1) rfl (by decide) dX4_isNewer_15 (q := 16) rfl ?_
    refine pw_goto hX (tgt := 20) dX4_isNewer_16 (by decide) ?_
    refine pw_ireturn hX dX4_isNewer_20 ⟨_, rfl, by first | exact bI_nar _ | decide | rfl⟩ ⟨congrArg (fun z => some (Value.int z)) ?_, ?_⟩
    · first | (rw [show mNewer a b c d = true from decide_eq_true (by omega)]; rfl) | (rw [show mNewer a b c d = false from decide_eq_false (by omega)]; rfl)
    · rfl
  · refine pw_iload_n hX rfl dX4_isNewer_5 (q := 6) rfl ?_
    refine pw_iload_n hX rfl dX4_isNewer_6 (q := 7) rfl ?_
    refine pw_icmpN_ne hX (by omega) (by omega) (tgt := 19) dX4_isNewer_7 (q := 10) rfl (by decide) (fun h_7 => ?_) (fun h_7 => ?_)
    · refine pw_iconst hX (k := 0) rfl (by decide) dX4_isNewer_19 (q := 20) rfl ?_
      refine pw_ireturn hX dX4_isNewer_20 ⟨_, rfl, by first | exact bI_nar _ | decide | rfl⟩ ⟨congrArg (fun z => some (Value.int z)) ?_, ?_⟩
      · first | (rw [show mNewer a b c d = true from decide_eq_true (by omega)]; rfl) | (rw [show mNewer a b c d = false from decide_eq_false (by omega)]; rfl)
      · rfl
    · refine pw_iload_n hX rfl dX4_isNewer_10 (q := 11) rfl ?_
      refine pw_iload_n hX rfl dX4_isNewer_11 (q := 12) rfl ?_
      refine pw_icmpN_le hX (by omega) (by omega) (tgt := 19) dX4_isNewer_12 (q := 15) rfl (by decide) (fun h_12 => ?_) (fun h_12 => ?_)
      · refine pw_iconst hX (k := 0) rfl (by decide) dX4_isNewer_19 (q := 20) rfl ?_
        refine pw_ireturn hX dX4_isNewer_20 ⟨_, rfl, by first | exact bI_nar _ | decide | rfl⟩ ⟨congrArg (fun z => some (Value.int z)) ?_, ?_⟩
        · first | (rw [show mNewer a b c d = true from decide_eq_true (by omega)]; rfl) | (rw [show mNewer a b c d = false from decide_eq_false (by omega)]; rfl)
        · rfl
      · refine pw_iconst hX (k := 1) rfl (by decide) dX4_isNewer_15 (q := 16) rfl ?_
        refine pw_goto hX (tgt := 20) dX4_isNewer_16 (by decide) ?_
        refine pw_ireturn hX dX4_isNewer_20 ⟨_, rfl, by first | exact bI_nar _ | decide | rfl⟩ ⟨congrArg (fun z => some (Value.int z)) ?_, ?_⟩
        · first | (rw [show mNewer a b c d = true from decide_eq_true (by omega)]; rfl) | (rw [show mNewer a b c d = false from decide_eq_false (by omega)]; rfl)
        · rfl
abbrev rm_X4_hasNewer : Room := { frames := 2, cells := 0, slots := 0, locals := 44 }
set_option maxHeartbeats 4000000 in
set_option maxRecDepth 20000 in
theorem c_X4_hasNewer {l : Launch} {g : Geo} {w : WD} {V : Nat → Nat → Nat} {S : Nat → Nat} {o p t : Nat} (ho : o < 7) (hp : p < 7) (ht : t < 12) (hB : bS S) : CtI l g yX4_hasNewer cX4_hasNewer 4 (some .boolean) rm_X4_hasNewer [.ref (g_ad g 9 0), .int (nI o), .int (nI p), .int (nI t)] (mW w V S) (bI (mHN S o p t)) (mW w V S) := by
  refine ct_of mi_X4_hasNewer.2.2.2.2.2 ⟨rfl, rfl⟩ (List.forall_mem_cons.mpr ⟨rfl, List.forall_mem_cons.mpr ⟨rfl, List.forall_mem_cons.mpr ⟨rfl, List.forall_mem_cons.mpr ⟨rfl, fun _ h => absurd h List.not_mem_nil⟩⟩⟩⟩) (Nat.le_of_ble_eq_true rfl) (fun P hX => ?_)
  replace hX : Gd l g RX4 cX4_hasNewer rm_X4_hasNewer 4 (some .boolean) _ _ P := hX
  show P (mW w V S) 0 [some (.ref (g_ad g 9 0)), some (.int (nI o)), some (.int (nI p)), some (.int (nI t))] []
  have h7 := hB.2.2.1
  refine pw_aload_n hX rfl dX4_hasNewer_0 (q := 1) rfl ?_
  refine pw_iload_n hX rfl dX4_hasNewer_1 (q := 2) rfl ?_
  refine pw_iload_n hX rfl dX4_hasNewer_2 (q := 3) rfl ?_
  refine pw_iconst hX (k := 0) rfl (by decide) dX4_hasNewer_3 (q := 4) rfl ?_
  refine pw_cvI3 hX dX4_hasNewer_4 (q := 7) rfl mi_X4_en ml_X4_73 rcM ⟨rfl, rfl, by decide, by decide⟩ rfl (Nat.le_of_ble_eq_true rfl) (c_X4_en (by first | assumption | omega) (by first | assumption | omega) (by first | assumption | omega)) ?_
  refine pw_ifN_eq hX (by first | omega | exact bS0 hB | exact bSw hB (by omega) (by omega) (by omega) | exact bSe hB (by omega) (by omega) | exact bS1 hB | exact bS2 hB) (tgt := 20) dX4_hasNewer_7 (q := 10) rfl (by decide) (fun h_7 => ?_) (fun h_7 => ?_)
  · refine pw_aload_n hX rfl dX4_hasNewer_20 (q := 21) rfl ?_
    refine pw_iload_n hX rfl dX4_hasNewer_21 (q := 22) rfl ?_
    refine pw_iload_n hX rfl dX4_hasNewer_22 (q := 23) rfl ?_
    refine pw_iconst hX (k := 0) rfl (by decide) dX4_hasNewer_23 (q := 24) rfl ?_
    refine pw_cvI3 hX dX4_hasNewer_24 (q := 27) rfl mi_X4_en ml_X4_73 rcM ⟨rfl, rfl, by decide, by decide⟩ rfl (Nat.le_of_ble_eq_true rfl) (c_X4_en (by first | assumption | omega) (by first | assumption | omega) (by first | assumption | omega)) ?_
    refine pw_ifN_eq hX (by first | omega | exact bS0 hB | exact bSw hB (by omega) (by omega) (by omega) | exact bSe hB (by omega) (by omega) | exact bS1 hB | exact bS2 hB) (tgt := 44) dX4_hasNewer_27 (q := 30) rfl (by decide) (fun h_27 => ?_) (fun h_27 => ?_)
    · refine pw_iconst hX (k := 0) rfl (by decide) dX4_hasNewer_44 (q := 45) rfl ?_
      refine pw_ireturn hX dX4_hasNewer_45 ⟨_, rfl, by first | exact bI_nar _ | decide | rfl⟩ ⟨congrArg (fun z => some (Value.int z)) ?_, ?_⟩
      · unfold mHN; rw [if_pos (by omega)]; first | (rw [decide_eq_true (by omega)]; rfl) | (rw [decide_eq_false (by omega)]; rfl)
      · rfl
    · refine pw_aload_n hX rfl dX4_hasNewer_30 (q := 31) rfl ?_
      refine pw_iload_n hX rfl dX4_hasNewer_31 (q := 32) rfl ?_
      refine pw_iload_n hX rfl dX4_hasNewer_32 (q := 33) rfl ?_
      refine pw_iconst hX (k := 0) rfl (by decide) dX4_hasNewer_33 (q := 34) rfl ?_
      refine pw_cvI3 hX dX4_hasNewer_34 (q := 37) rfl mi_X4_en ml_X4_73 rcM ⟨rfl, rfl, by decide, by decide⟩ rfl (Nat.le_of_ble_eq_true rfl) (c_X4_en (by first | assumption | omega) (by first | assumption | omega) (by first | assumption | omega)) ?_
      refine pw_ifN_ne hX (by first | omega | exact bS0 hB | exact bSw hB (by omega) (by omega) (by omega) | exact bSe hB (by omega) (by omega) | exact bS1 hB | exact bS2 hB) (tgt := 44) dX4_hasNewer_37 (q := 40) rfl (by decide) (fun h_37 => ?_) (fun h_37 => ?_)
      · refine pw_iconst hX (k := 0) rfl (by decide) dX4_hasNewer_44 (q := 45) rfl ?_
        refine pw_ireturn hX dX4_hasNewer_45 ⟨_, rfl, by first | exact bI_nar _ | decide | rfl⟩ ⟨congrArg (fun z => some (Value.int z)) ?_, ?_⟩
        · unfold mHN; rw [if_pos (by omega)]; first | (rw [decide_eq_true (by omega)]; rfl) | (rw [decide_eq_false (by omega)]; rfl)
        · rfl
      · refine pw_iconst hX (k := 1) rfl (by decide) dX4_hasNewer_40 (q := 41) rfl ?_
        refine pw_goto hX (tgt := 45) dX4_hasNewer_41 (by decide) ?_
        refine pw_ireturn hX dX4_hasNewer_45 ⟨_, rfl, by first | exact bI_nar _ | decide | rfl⟩ ⟨congrArg (fun z => some (Value.int z)) ?_, ?_⟩
        · unfold mHN; rw [if_pos (by omega)]; first | (rw [decide_eq_true (by omega)]; rfl) | (rw [decide_eq_false (by omega)]; rfl)
        · rfl
  · refine pw_aload_n hX rfl dX4_hasNewer_10 (q := 11) rfl ?_
    refine pw_iload_n hX rfl dX4_hasNewer_11 (q := 12) rfl ?_
    refine pw_iload_n hX rfl dX4_hasNewer_12 (q := 13) rfl ?_
    refine pw_iconst hX (k := 0) rfl (by decide) dX4_hasNewer_13 (q := 14) rfl ?_
    refine pw_cvI3 hX dX4_hasNewer_14 (q := 17) rfl mi_X4_en ml_X4_73 rcM ⟨rfl, rfl, by decide, by decide⟩ rfl (Nat.le_of_ble_eq_true rfl) (c_X4_en (by first | assumption | omega) (by first | assumption | omega) (by first | assumption | omega)) ?_
    refine pw_ifN_ne hX (by first | omega | exact bS0 hB | exact bSw hB (by omega) (by omega) (by omega) | exact bSe hB (by omega) (by omega) | exact bS1 hB | exact bS2 hB) (tgt := 46) dX4_hasNewer_17 (q := 20) rfl (by decide) (fun h_17 => ?_) (fun h_17 => ?_)
    · refine pw_aload_n hX rfl dX4_hasNewer_46 (q := 47) rfl ?_
      refine pw_iload_n hX rfl dX4_hasNewer_47 (q := 48) rfl ?_
      refine pw_iload_n hX rfl dX4_hasNewer_48 (q := 49) rfl ?_
      refine pw_iconst hX (k := 1) rfl (by decide) dX4_hasNewer_49 (q := 50) rfl ?_
      refine pw_cvI3 hX dX4_hasNewer_50 (q := 53) rfl mi_X4_en ml_X4_73 rcM ⟨rfl, rfl, by decide, by decide⟩ rfl (Nat.le_of_ble_eq_true rfl) (c_X4_en (by first | assumption | omega) (by first | assumption | omega) (by first | assumption | omega)) ?_
      refine pw_aload_n hX rfl dX4_hasNewer_53 (q := 54) rfl ?_
      refine pw_iload_n hX rfl dX4_hasNewer_54 (q := 55) rfl ?_
      refine pw_iload_n hX rfl dX4_hasNewer_55 (q := 56) rfl ?_
      refine pw_iconst hX (k := 2) rfl (by decide) dX4_hasNewer_56 (q := 57) rfl ?_
      refine pw_cvI3 hX dX4_hasNewer_57 (q := 60) rfl mi_X4_en ml_X4_73 rcM ⟨rfl, rfl, by decide, by decide⟩ rfl (Nat.le_of_ble_eq_true rfl) (c_X4_en (by first | assumption | omega) (by first | assumption | omega) (by first | assumption | omega)) ?_
      refine pw_aload_n hX rfl dX4_hasNewer_60 (q := 61) rfl ?_
      refine pw_iload_n hX rfl dX4_hasNewer_61 (q := 62) rfl ?_
      refine pw_iload_n hX rfl dX4_hasNewer_62 (q := 63) rfl ?_
      refine pw_iconst hX (k := 1) rfl (by decide) dX4_hasNewer_63 (q := 64) rfl ?_
      refine pw_cvI3 hX dX4_hasNewer_64 (q := 67) rfl mi_X4_en ml_X4_73 rcM ⟨rfl, rfl, by decide, by decide⟩ rfl (Nat.le_of_ble_eq_true rfl) (c_X4_en (by first | assumption | omega) (by first | assumption | omega) (by first | assumption | omega)) ?_
      refine pw_aload_n hX rfl dX4_hasNewer_67 (q := 68) rfl ?_
      refine pw_iload_n hX rfl dX4_hasNewer_68 (q := 69) rfl ?_
      refine pw_iload_n hX rfl dX4_hasNewer_69 (q := 70) rfl ?_
      refine pw_iconst hX (k := 2) rfl (by decide) dX4_hasNewer_70 (q := 71) rfl ?_
      refine pw_cvI3 hX dX4_hasNewer_71 (q := 74) rfl mi_X4_en ml_X4_73 rcM ⟨rfl, rfl, by decide, by decide⟩ rfl (Nat.le_of_ble_eq_true rfl) (c_X4_en (by first | assumption | omega) (by first | assumption | omega) (by first | assumption | omega)) ?_
      refine pw_csI4 hX dX4_hasNewer_74 (q := 77) rfl mi_X4_isNewer ml_X4_81 ⟨rfl, rfl, by decide, by decide⟩ rfl (Nat.le_of_ble_eq_true rfl) (c_X4_isNewer (bSe hB (by omega) (by omega)) (bSe hB (by omega) (by omega)) (bSe hB (by omega) (by omega)) (bSe hB (by omega) (by omega))) ?_
      refine pw_ireturn hX dX4_hasNewer_77 ⟨_, rfl, by first | exact bI_nar _ | decide | rfl⟩ ⟨congrArg (fun z => some (Value.int z)) ?_, ?_⟩
      · unfold mHN; rw [if_neg (by omega)]
      · rfl
    · refine pw_aload_n hX rfl dX4_hasNewer_20 (q := 21) rfl ?_
      refine pw_iload_n hX rfl dX4_hasNewer_21 (q := 22) rfl ?_
      refine pw_iload_n hX rfl dX4_hasNewer_22 (q := 23) rfl ?_
      refine pw_iconst hX (k := 0) rfl (by decide) dX4_hasNewer_23 (q := 24) rfl ?_
      refine pw_cvI3 hX dX4_hasNewer_24 (q := 27) rfl mi_X4_en ml_X4_73 rcM ⟨rfl, rfl, by decide, by decide⟩ rfl (Nat.le_of_ble_eq_true rfl) (c_X4_en (by first | assumption | omega) (by first | assumption | omega) (by first | assumption | omega)) ?_
      refine pw_ifN_eq hX (by first | omega | exact bS0 hB | exact bSw hB (by omega) (by omega) (by omega) | exact bSe hB (by omega) (by omega) | exact bS1 hB | exact bS2 hB) (tgt := 44) dX4_hasNewer_27 (q := 30) rfl (by decide) (fun h_27 => ?_) (fun h_27 => ?_)
      · refine pw_iconst hX (k := 0) rfl (by decide) dX4_hasNewer_44 (q := 45) rfl ?_
        refine pw_ireturn hX dX4_hasNewer_45 ⟨_, rfl, by first | exact bI_nar _ | decide | rfl⟩ ⟨congrArg (fun z => some (Value.int z)) ?_, ?_⟩
        · unfold mHN; rw [if_pos (by omega)]; first | (rw [decide_eq_true (by omega)]; rfl) | (rw [decide_eq_false (by omega)]; rfl)
        · rfl
      · refine pw_aload_n hX rfl dX4_hasNewer_30 (q := 31) rfl ?_
        refine pw_iload_n hX rfl dX4_hasNewer_31 (q := 32) rfl ?_
        refine pw_iload_n hX rfl dX4_hasNewer_32 (q := 33) rfl ?_
        refine pw_iconst hX (k := 0) rfl (by decide) dX4_hasNewer_33 (q := 34) rfl ?_
        refine pw_cvI3 hX dX4_hasNewer_34 (q := 37) rfl mi_X4_en ml_X4_73 rcM ⟨rfl, rfl, by decide, by decide⟩ rfl (Nat.le_of_ble_eq_true rfl) (c_X4_en (by first | assumption | omega) (by first | assumption | omega) (by first | assumption | omega)) ?_
        refine pw_ifN_ne hX (by first | omega | exact bS0 hB | exact bSw hB (by omega) (by omega) (by omega) | exact bSe hB (by omega) (by omega) | exact bS1 hB | exact bS2 hB) (tgt := 44) dX4_hasNewer_37 (q := 40) rfl (by decide) (fun h_37 => ?_) (fun h_37 => ?_)
        · refine pw_iconst hX (k := 0) rfl (by decide) dX4_hasNewer_44 (q := 45) rfl ?_
          refine pw_ireturn hX dX4_hasNewer_45 ⟨_, rfl, by first | exact bI_nar _ | decide | rfl⟩ ⟨congrArg (fun z => some (Value.int z)) ?_, ?_⟩
          · unfold mHN; rw [if_pos (by omega)]; first | (rw [decide_eq_true (by omega)]; rfl) | (rw [decide_eq_false (by omega)]; rfl)
          · rfl
        · refine pw_iconst hX (k := 1) rfl (by decide) dX4_hasNewer_40 (q := 41) rfl ?_
          refine pw_goto hX (tgt := 45) dX4_hasNewer_41 (by decide) ?_
          refine pw_ireturn hX dX4_hasNewer_45 ⟨_, rfl, by first | exact bI_nar _ | decide | rfl⟩ ⟨congrArg (fun z => some (Value.int z)) ?_, ?_⟩
          · unfold mHN; rw [if_pos (by omega)]; first | (rw [decide_eq_true (by omega)]; rfl) | (rw [decide_eq_false (by omega)]; rfl)
          · rfl
abbrev rm_X4_areSame : Room := { frames := 3, cells := 0, slots := 0, locals := 67 }
set_option maxHeartbeats 4000000 in
set_option maxRecDepth 20000 in
theorem c_X4_areSame {l : Launch} {g : Geo} {w : WD} {V : Nat → Nat → Nat} {S : Nat → Nat} {o p t : Nat} (ho : o < 7) (hp : p < 7) (ht : t < 12) (hB : bS S) : CtI l g yX4_areSame cX4_areSame 4 (some .boolean) rm_X4_areSame [.ref (g_ad g 9 0), .int (nI o), .int (nI p), .int (nI t)] (mW w V S) (bI (mSame S o p t)) (mW w V S) := by
  refine ct_of mi_X4_areSame.2.2.2.2.2 ⟨rfl, rfl⟩ (List.forall_mem_cons.mpr ⟨rfl, List.forall_mem_cons.mpr ⟨rfl, List.forall_mem_cons.mpr ⟨rfl, List.forall_mem_cons.mpr ⟨rfl, fun _ h => absurd h List.not_mem_nil⟩⟩⟩⟩) (Nat.le_of_ble_eq_true rfl) (fun P hX => ?_)
  replace hX : Gd l g RX4 cX4_areSame rm_X4_areSame 4 (some .boolean) _ _ P := hX
  show P (mW w V S) 0 [some (.ref (g_ad g 9 0)), some (.int (nI o)), some (.int (nI p)), some (.int (nI t))] []
  have h7 := hB.2.2.1
  refine pw_aload_n hX rfl dX4_areSame_0 (q := 1) rfl ?_
  refine pw_iload_n hX rfl dX4_areSame_1 (q := 2) rfl ?_
  refine pw_iload_n hX rfl dX4_areSame_2 (q := 3) rfl ?_
  refine pw_iconst hX (k := 0) rfl (by decide) dX4_areSame_3 (q := 4) rfl ?_
  refine pw_cvI3 hX dX4_areSame_4 (q := 7) rfl mi_X4_en ml_X4_73 rcM ⟨rfl, rfl, by decide, by decide⟩ rfl (Nat.le_of_ble_eq_true rfl) (c_X4_en (by first | assumption | omega) (by first | assumption | omega) (by first | assumption | omega)) ?_
  refine pw_ifN_ne hX (by first | omega | exact bS0 hB | exact bSw hB (by omega) (by omega) (by omega) | exact bSe hB (by omega) (by omega) | exact bS1 hB | exact bS2 hB) (tgt := 14) dX4_areSame_7 (q := 10) rfl (by decide) (fun h_7 => ?_) (fun h_7 => ?_)
  · refine pw_iconst hX (k := 0) rfl (by decide) dX4_areSame_14 (q := 15) rfl ?_
    refine pw_aload_n hX rfl dX4_areSame_15 (q := 16) rfl ?_
    refine pw_iload_n hX rfl dX4_areSame_16 (q := 17) rfl ?_
    refine pw_iload_n hX rfl dX4_areSame_17 (q := 18) rfl ?_
    refine pw_iconst hX (k := 0) rfl (by decide) dX4_areSame_18 (q := 19) rfl ?_
    refine pw_cvI3 hX dX4_areSame_19 (q := 22) rfl mi_X4_en ml_X4_73 rcM ⟨rfl, rfl, by decide, by decide⟩ rfl (Nat.le_of_ble_eq_true rfl) (c_X4_en (by first | assumption | omega) (by first | assumption | omega) (by first | assumption | omega)) ?_
    refine pw_ifN_ne hX (by first | omega | exact bS0 hB | exact bSw hB (by omega) (by omega) (by omega) | exact bSe hB (by omega) (by omega) | exact bS1 hB | exact bS2 hB) (tgt := 29) dX4_areSame_22 (q := 25) rfl (by decide) (fun h_22 => ?_) (fun h_22 => ?_)
    · refine pw_iconst hX (k := 0) rfl (by decide) dX4_areSame_29 (q := 30) rfl ?_
      refine pw_icmpN_ne hX (by first | omega | exact bS0 hB | exact bSw hB (by omega) (by omega) (by omega) | exact bSe hB (by omega) (by omega) | exact bS1 hB | exact bS2 hB) (by first | omega | exact bS0 hB | exact bSw hB (by omega) (by omega) (by omega) | exact bSe hB (by omega) (by omega) | exact bS1 hB | exact bS2 hB) (tgt := 57) dX4_areSame_30 (q := 33) rfl (by decide) (fun h_30 => ?_) (fun h_30 => ?_)
      · refine pw_iconst hX (k := 0) rfl (by decide) dX4_areSame_57 (q := 58) rfl ?_
        refine pw_ireturn hX dX4_areSame_58 ⟨_, rfl, by first | exact bI_nar _ | decide | rfl⟩ ⟨congrArg (fun z => some (Value.int z)) ?_, ?_⟩
        · first | (exfalso; omega) | (rw [show mSame S o p t = true by simp_all [mSame]]; rfl) | (rw [show mSame S o p t = false by simp_all [mSame]]; rfl)
        · rfl
      · refine pw_aload_n hX rfl dX4_areSame_33 (q := 34) rfl ?_
        refine pw_iload_n hX rfl dX4_areSame_34 (q := 35) rfl ?_
        refine pw_iload_n hX rfl dX4_areSame_35 (q := 36) rfl ?_
        refine pw_iload_n hX rfl dX4_areSame_36 (q := 37) rfl ?_
        refine pw_cvI3 hX dX4_areSame_37 (q := 40) rfl mi_X4_hasNewer ml_X4_85 rcM ⟨rfl, rfl, by decide, by decide⟩ rfl (Nat.le_of_ble_eq_true rfl) (c_X4_hasNewer (by first | assumption | omega) (by first | assumption | omega) (by first | assumption | omega) (by first | assumption | omega)) ?_
        refine pw_ifB_ne hX (tgt := 57) dX4_areSame_40 (q := 43) rfl (by decide) (fun h_40 => ?_) (fun h_40 => ?_)
        · refine pw_iconst hX (k := 0) rfl (by decide) dX4_areSame_57 (q := 58) rfl ?_
          refine pw_ireturn hX dX4_areSame_58 ⟨_, rfl, by first | exact bI_nar _ | decide | rfl⟩ ⟨congrArg (fun z => some (Value.int z)) ?_, ?_⟩
          · first | (exfalso; omega) | (rw [show mSame S o p t = true by simp_all [mSame]]; rfl) | (rw [show mSame S o p t = false by simp_all [mSame]]; rfl)
          · rfl
        · refine pw_aload_n hX rfl dX4_areSame_43 (q := 44) rfl ?_
          refine pw_iload_n hX rfl dX4_areSame_44 (q := 45) rfl ?_
          refine pw_iload_n hX rfl dX4_areSame_45 (q := 46) rfl ?_
          refine pw_iload_n hX rfl dX4_areSame_46 (q := 47) rfl ?_
          refine pw_cvI3 hX dX4_areSame_47 (q := 50) rfl mi_X4_hasNewer ml_X4_85 rcM ⟨rfl, rfl, by decide, by decide⟩ rfl (Nat.le_of_ble_eq_true rfl) (c_X4_hasNewer (by first | assumption | omega) (by first | assumption | omega) (by first | assumption | omega) (by first | assumption | omega)) ?_
          refine pw_ifB_ne hX (tgt := 57) dX4_areSame_50 (q := 53) rfl (by decide) (fun h_50 => ?_) (fun h_50 => ?_)
          · refine pw_iconst hX (k := 0) rfl (by decide) dX4_areSame_57 (q := 58) rfl ?_
            refine pw_ireturn hX dX4_areSame_58 ⟨_, rfl, by first | exact bI_nar _ | decide | rfl⟩ ⟨congrArg (fun z => some (Value.int z)) ?_, ?_⟩
            · first | (exfalso; omega) | (rw [show mSame S o p t = true by simp_all [mSame]]; rfl) | (rw [show mSame S o p t = false by simp_all [mSame]]; rfl)
            · rfl
          · refine pw_iconst hX (k := 1) rfl (by decide) dX4_areSame_53 (q := 54) rfl ?_
            refine pw_goto hX (tgt := 58) dX4_areSame_54 (by decide) ?_
            refine pw_ireturn hX dX4_areSame_58 ⟨_, rfl, by first | exact bI_nar _ | decide | rfl⟩ ⟨congrArg (fun z => some (Value.int z)) ?_, ?_⟩
            · first | (exfalso; omega) | (rw [show mSame S o p t = true by simp_all [mSame]]; rfl) | (rw [show mSame S o p t = false by simp_all [mSame]]; rfl)
            · rfl
    · refine pw_iconst hX (k := 1) rfl (by decide) dX4_areSame_25 (q := 26) rfl ?_
      refine pw_goto hX (tgt := 30) dX4_areSame_26 (by decide) ?_
      refine pw_icmpN_ne hX (by first | omega | exact bS0 hB | exact bSw hB (by omega) (by omega) (by omega) | exact bSe hB (by omega) (by omega) | exact bS1 hB | exact bS2 hB) (by first | omega | exact bS0 hB | exact bSw hB (by omega) (by omega) (by omega) | exact bSe hB (by omega) (by omega) | exact bS1 hB | exact bS2 hB) (tgt := 57) dX4_areSame_30 (q := 33) rfl (by decide) (fun h_30 => ?_) (fun h_30 => ?_)
      · refine pw_iconst hX (k := 0) rfl (by decide) dX4_areSame_57 (q := 58) rfl ?_
        refine pw_ireturn hX dX4_areSame_58 ⟨_, rfl, by first | exact bI_nar _ | decide | rfl⟩ ⟨congrArg (fun z => some (Value.int z)) ?_, ?_⟩
        · first | (exfalso; omega) | (rw [show mSame S o p t = true by simp_all [mSame]]; rfl) | (rw [show mSame S o p t = false by simp_all [mSame]]; rfl)
        · rfl
      · refine pw_aload_n hX rfl dX4_areSame_33 (q := 34) rfl ?_
        refine pw_iload_n hX rfl dX4_areSame_34 (q := 35) rfl ?_
        refine pw_iload_n hX rfl dX4_areSame_35 (q := 36) rfl ?_
        refine pw_iload_n hX rfl dX4_areSame_36 (q := 37) rfl ?_
        refine pw_cvI3 hX dX4_areSame_37 (q := 40) rfl mi_X4_hasNewer ml_X4_85 rcM ⟨rfl, rfl, by decide, by decide⟩ rfl (Nat.le_of_ble_eq_true rfl) (c_X4_hasNewer (by first | assumption | omega) (by first | assumption | omega) (by first | assumption | omega) (by first | assumption | omega)) ?_
        refine pw_ifB_ne hX (tgt := 57) dX4_areSame_40 (q := 43) rfl (by decide) (fun h_40 => ?_) (fun h_40 => ?_)
        · refine pw_iconst hX (k := 0) rfl (by decide) dX4_areSame_57 (q := 58) rfl ?_
          refine pw_ireturn hX dX4_areSame_58 ⟨_, rfl, by first | exact bI_nar _ | decide | rfl⟩ ⟨congrArg (fun z => some (Value.int z)) ?_, ?_⟩
          · first | (exfalso; omega) | (rw [show mSame S o p t = true by simp_all [mSame]]; rfl) | (rw [show mSame S o p t = false by simp_all [mSame]]; rfl)
          · rfl
        · refine pw_aload_n hX rfl dX4_areSame_43 (q := 44) rfl ?_
          refine pw_iload_n hX rfl dX4_areSame_44 (q := 45) rfl ?_
          refine pw_iload_n hX rfl dX4_areSame_45 (q := 46) rfl ?_
          refine pw_iload_n hX rfl dX4_areSame_46 (q := 47) rfl ?_
          refine pw_cvI3 hX dX4_areSame_47 (q := 50) rfl mi_X4_hasNewer ml_X4_85 rcM ⟨rfl, rfl, by decide, by decide⟩ rfl (Nat.le_of_ble_eq_true rfl) (c_X4_hasNewer (by first | assumption | omega) (by first | assumption | omega) (by first | assumption | omega) (by first | assumption | omega)) ?_
          refine pw_ifB_ne hX (tgt := 57) dX4_areSame_50 (q := 53) rfl (by decide) (fun h_50 => ?_) (fun h_50 => ?_)
          · refine pw_iconst hX (k := 0) rfl (by decide) dX4_areSame_57 (q := 58) rfl ?_
            refine pw_ireturn hX dX4_areSame_58 ⟨_, rfl, by first | exact bI_nar _ | decide | rfl⟩ ⟨congrArg (fun z => some (Value.int z)) ?_, ?_⟩
            · first | (exfalso; omega) | (rw [show mSame S o p t = true by simp_all [mSame]]; rfl) | (rw [show mSame S o p t = false by simp_all [mSame]]; rfl)
            · rfl
          · refine pw_iconst hX (k := 1) rfl (by decide) dX4_areSame_53 (q := 54) rfl ?_
            refine pw_goto hX (tgt := 58) dX4_areSame_54 (by decide) ?_
            refine pw_ireturn hX dX4_areSame_58 ⟨_, rfl, by first | exact bI_nar _ | decide | rfl⟩ ⟨congrArg (fun z => some (Value.int z)) ?_, ?_⟩
            · first | (exfalso; omega) | (rw [show mSame S o p t = true by simp_all [mSame]]; rfl) | (rw [show mSame S o p t = false by simp_all [mSame]]; rfl)
            · rfl
  · refine pw_iconst hX (k := 1) rfl (by decide) dX4_areSame_10 (q := 11) rfl ?_
    refine pw_goto hX (tgt := 15) dX4_areSame_11 (by decide) ?_
    refine pw_aload_n hX rfl dX4_areSame_15 (q := 16) rfl ?_
    refine pw_iload_n hX rfl dX4_areSame_16 (q := 17) rfl ?_
    refine pw_iload_n hX rfl dX4_areSame_17 (q := 18) rfl ?_
    refine pw_iconst hX (k := 0) rfl (by decide) dX4_areSame_18 (q := 19) rfl ?_
    refine pw_cvI3 hX dX4_areSame_19 (q := 22) rfl mi_X4_en ml_X4_73 rcM ⟨rfl, rfl, by decide, by decide⟩ rfl (Nat.le_of_ble_eq_true rfl) (c_X4_en (by first | assumption | omega) (by first | assumption | omega) (by first | assumption | omega)) ?_
    refine pw_ifN_ne hX (by first | omega | exact bS0 hB | exact bSw hB (by omega) (by omega) (by omega) | exact bSe hB (by omega) (by omega) | exact bS1 hB | exact bS2 hB) (tgt := 29) dX4_areSame_22 (q := 25) rfl (by decide) (fun h_22 => ?_) (fun h_22 => ?_)
    · refine pw_iconst hX (k := 0) rfl (by decide) dX4_areSame_29 (q := 30) rfl ?_
      refine pw_icmpN_ne hX (by first | omega | exact bS0 hB | exact bSw hB (by omega) (by omega) (by omega) | exact bSe hB (by omega) (by omega) | exact bS1 hB | exact bS2 hB) (by first | omega | exact bS0 hB | exact bSw hB (by omega) (by omega) (by omega) | exact bSe hB (by omega) (by omega) | exact bS1 hB | exact bS2 hB) (tgt := 57) dX4_areSame_30 (q := 33) rfl (by decide) (fun h_30 => ?_) (fun h_30 => ?_)
      · refine pw_iconst hX (k := 0) rfl (by decide) dX4_areSame_57 (q := 58) rfl ?_
        refine pw_ireturn hX dX4_areSame_58 ⟨_, rfl, by first | exact bI_nar _ | decide | rfl⟩ ⟨congrArg (fun z => some (Value.int z)) ?_, ?_⟩
        · first | (exfalso; omega) | (rw [show mSame S o p t = true by simp_all [mSame]]; rfl) | (rw [show mSame S o p t = false by simp_all [mSame]]; rfl)
        · rfl
      · refine pw_aload_n hX rfl dX4_areSame_33 (q := 34) rfl ?_
        refine pw_iload_n hX rfl dX4_areSame_34 (q := 35) rfl ?_
        refine pw_iload_n hX rfl dX4_areSame_35 (q := 36) rfl ?_
        refine pw_iload_n hX rfl dX4_areSame_36 (q := 37) rfl ?_
        refine pw_cvI3 hX dX4_areSame_37 (q := 40) rfl mi_X4_hasNewer ml_X4_85 rcM ⟨rfl, rfl, by decide, by decide⟩ rfl (Nat.le_of_ble_eq_true rfl) (c_X4_hasNewer (by first | assumption | omega) (by first | assumption | omega) (by first | assumption | omega) (by first | assumption | omega)) ?_
        refine pw_ifB_ne hX (tgt := 57) dX4_areSame_40 (q := 43) rfl (by decide) (fun h_40 => ?_) (fun h_40 => ?_)
        · refine pw_iconst hX (k := 0) rfl (by decide) dX4_areSame_57 (q := 58) rfl ?_
          refine pw_ireturn hX dX4_areSame_58 ⟨_, rfl, by first | exact bI_nar _ | decide | rfl⟩ ⟨congrArg (fun z => some (Value.int z)) ?_, ?_⟩
          · first | (exfalso; omega) | (rw [show mSame S o p t = true by simp_all [mSame]]; rfl) | (rw [show mSame S o p t = false by simp_all [mSame]]; rfl)
          · rfl
        · refine pw_aload_n hX rfl dX4_areSame_43 (q := 44) rfl ?_
          refine pw_iload_n hX rfl dX4_areSame_44 (q := 45) rfl ?_
          refine pw_iload_n hX rfl dX4_areSame_45 (q := 46) rfl ?_
          refine pw_iload_n hX rfl dX4_areSame_46 (q := 47) rfl ?_
          refine pw_cvI3 hX dX4_areSame_47 (q := 50) rfl mi_X4_hasNewer ml_X4_85 rcM ⟨rfl, rfl, by decide, by decide⟩ rfl (Nat.le_of_ble_eq_true rfl) (c_X4_hasNewer (by first | assumption | omega) (by first | assumption | omega) (by first | assumption | omega) (by first | assumption | omega)) ?_
          refine pw_ifB_ne hX (tgt := 57) dX4_areSame_50 (q := 53) rfl (by decide) (fun h_50 => ?_) (fun h_50 => ?_)
          · refine pw_iconst hX (k := 0) rfl (by decide) dX4_areSame_57 (q := 58) rfl ?_
            refine pw_ireturn hX dX4_areSame_58 ⟨_, rfl, by first | exact bI_nar _ | decide | rfl⟩ ⟨congrArg (fun z => some (Value.int z)) ?_, ?_⟩
            · first | (exfalso; omega) | (rw [show mSame S o p t = true by simp_all [mSame]]; rfl) | (rw [show mSame S o p t = false by simp_all [mSame]]; rfl)
            · rfl
          · refine pw_iconst hX (k := 1) rfl (by decide) dX4_areSame_53 (q := 54) rfl ?_
            refine pw_goto hX (tgt := 58) dX4_areSame_54 (by decide) ?_
            refine pw_ireturn hX dX4_areSame_58 ⟨_, rfl, by first | exact bI_nar _ | decide | rfl⟩ ⟨congrArg (fun z => some (Value.int z)) ?_, ?_⟩
            · first | (exfalso; omega) | (rw [show mSame S o p t = true by simp_all [mSame]]; rfl) | (rw [show mSame S o p t = false by simp_all [mSame]]; rfl)
            · rfl
    · refine pw_iconst hX (k := 1) rfl (by decide) dX4_areSame_25 (q := 26) rfl ?_
      refine pw_goto hX (tgt := 30) dX4_areSame_26 (by decide) ?_
      refine pw_icmpN_ne hX (by first | omega | exact bS0 hB | exact bSw hB (by omega) (by omega) (by omega) | exact bSe hB (by omega) (by omega) | exact bS1 hB | exact bS2 hB) (by first | omega | exact bS0 hB | exact bSw hB (by omega) (by omega) (by omega) | exact bSe hB (by omega) (by omega) | exact bS1 hB | exact bS2 hB) (tgt := 57) dX4_areSame_30 (q := 33) rfl (by decide) (fun h_30 => ?_) (fun h_30 => ?_)
      · refine pw_iconst hX (k := 0) rfl (by decide) dX4_areSame_57 (q := 58) rfl ?_
        refine pw_ireturn hX dX4_areSame_58 ⟨_, rfl, by first | exact bI_nar _ | decide | rfl⟩ ⟨congrArg (fun z => some (Value.int z)) ?_, ?_⟩
        · first | (exfalso; omega) | (rw [show mSame S o p t = true by simp_all [mSame]]; rfl) | (rw [show mSame S o p t = false by simp_all [mSame]]; rfl)
        · rfl
      · refine pw_aload_n hX rfl dX4_areSame_33 (q := 34) rfl ?_
        refine pw_iload_n hX rfl dX4_areSame_34 (q := 35) rfl ?_
        refine pw_iload_n hX rfl dX4_areSame_35 (q := 36) rfl ?_
        refine pw_iload_n hX rfl dX4_areSame_36 (q := 37) rfl ?_
        refine pw_cvI3 hX dX4_areSame_37 (q := 40) rfl mi_X4_hasNewer ml_X4_85 rcM ⟨rfl, rfl, by decide, by decide⟩ rfl (Nat.le_of_ble_eq_true rfl) (c_X4_hasNewer (by first | assumption | omega) (by first | assumption | omega) (by first | assumption | omega) (by first | assumption | omega)) ?_
        refine pw_ifB_ne hX (tgt := 57) dX4_areSame_40 (q := 43) rfl (by decide) (fun h_40 => ?_) (fun h_40 => ?_)
        · refine pw_iconst hX (k := 0) rfl (by decide) dX4_areSame_57 (q := 58) rfl ?_
          refine pw_ireturn hX dX4_areSame_58 ⟨_, rfl, by first | exact bI_nar _ | decide | rfl⟩ ⟨congrArg (fun z => some (Value.int z)) ?_, ?_⟩
          · first | (exfalso; omega) | (rw [show mSame S o p t = true by simp_all [mSame]]; rfl) | (rw [show mSame S o p t = false by simp_all [mSame]]; rfl)
          · rfl
        · refine pw_aload_n hX rfl dX4_areSame_43 (q := 44) rfl ?_
          refine pw_iload_n hX rfl dX4_areSame_44 (q := 45) rfl ?_
          refine pw_iload_n hX rfl dX4_areSame_45 (q := 46) rfl ?_
          refine pw_iload_n hX rfl dX4_areSame_46 (q := 47) rfl ?_
          refine pw_cvI3 hX dX4_areSame_47 (q := 50) rfl mi_X4_hasNewer ml_X4_85 rcM ⟨rfl, rfl, by decide, by decide⟩ rfl (Nat.le_of_ble_eq_true rfl) (c_X4_hasNewer (by first | assumption | omega) (by first | assumption | omega) (by first | assumption | omega) (by first | assumption | omega)) ?_
          refine pw_ifB_ne hX (tgt := 57) dX4_areSame_50 (q := 53) rfl (by decide) (fun h_50 => ?_) (fun h_50 => ?_)
          · refine pw_iconst hX (k := 0) rfl (by decide) dX4_areSame_57 (q := 58) rfl ?_
            refine pw_ireturn hX dX4_areSame_58 ⟨_, rfl, by first | exact bI_nar _ | decide | rfl⟩ ⟨congrArg (fun z => some (Value.int z)) ?_, ?_⟩
            · first | (exfalso; omega) | (rw [show mSame S o p t = true by simp_all [mSame]]; rfl) | (rw [show mSame S o p t = false by simp_all [mSame]]; rfl)
            · rfl
          · refine pw_iconst hX (k := 1) rfl (by decide) dX4_areSame_53 (q := 54) rfl ?_
            refine pw_goto hX (tgt := 58) dX4_areSame_54 (by decide) ?_
            refine pw_ireturn hX dX4_areSame_58 ⟨_, rfl, by first | exact bI_nar _ | decide | rfl⟩ ⟨congrArg (fun z => some (Value.int z)) ?_, ?_⟩
            · first | (exfalso; omega) | (rw [show mSame S o p t = true by simp_all [mSame]]; rfl) | (rw [show mSame S o p t = false by simp_all [mSame]]; rfl)
            · rfl
abbrev rm_X4_makes : Room := { frames := 1, cells := 0, slots := 0, locals := 22 }
set_option maxHeartbeats 4000000 in
set_option maxRecDepth 20000 in
theorem c_X4_makes {l : Launch} {g : Geo} {w : WD} {V : Nat → Nat → Nat} {S : Nat → Nat} {v t a b c : Nat} (hv : v < 7) (ht : t < 12) : CtI l g yX4_makes cX4_makes 7 (some .int) rm_X4_makes [.ref (g_ad g 9 0), .int (nI v), .int (nI t), .int (nI a), .int (nI b), .int (nI c)] (mW w V S) (nI (mMake S v t a b c (5 + 4 * v + 1))) (mW w V (mMake S v t a b c)) := by
  refine ct_of mi_X4_makes.2.2.2.2.2 ⟨rfl, rfl⟩ (List.forall_mem_cons.mpr ⟨rfl, List.forall_mem_cons.mpr ⟨rfl, List.forall_mem_cons.mpr ⟨rfl, List.forall_mem_cons.mpr ⟨rfl, List.forall_mem_cons.mpr ⟨rfl, List.forall_mem_cons.mpr ⟨rfl, fun _ h => absurd h List.not_mem_nil⟩⟩⟩⟩⟩⟩) (Nat.le_of_ble_eq_true rfl) (fun P hX => ?_)
  replace hX : Gd l g RX4 cX4_makes rm_X4_makes 7 (some .int) _ _ P := hX
  show P (mW w V S) 0 [some (.ref (g_ad g 9 0)), some (.int (nI v)), some (.int (nI t)), some (.int (nI a)), some (.int (nI b)), some (.int (nI c)), none] []
  refine pw_aload_n hX rfl dX4_makes_0 (q := 1) rfl ?_
  refine pw_getMS hX 0 (by decide) fl_X4_7 rfl dX4_makes_1 (q := 4) rfl ?_
  refine pw_iconst hX (k := 5) rfl (by decide) dX4_makes_4 (q := 5) rfl ?_
  refine pw_iconst hX (k := 4) rfl (by decide) dX4_makes_5 (q := 6) rfl ?_
  refine pw_iload_n hX rfl dX4_makes_6 (q := 7) rfl ?_
  refine pw_imulN hX dX4_makes_7 (q := 8) rfl ?_
  refine pw_iaddN hX dX4_makes_8 (q := 9) rfl ?_
  refine pw_iconst hX (k := 1) rfl (by decide) dX4_makes_9 (q := 10) rfl ?_
  refine pw_iaddN hX dX4_makes_10 (q := 11) rfl ?_
  refine pw_dup2 hX rfl rfl dX4_makes_11 (q := 12) rfl ?_
  refine pw_ialdS hX (by omega) dX4_makes_12 (q := 13) rfl ?_
  refine pw_iconst hX (k := 1) rfl (by decide) dX4_makes_13 (q := 14) rfl ?_
  refine pw_iaddN hX dX4_makes_14 (q := 15) rfl ?_
  refine pw_iastS hX (by omega) dX4_makes_15 (q := 16) rfl ?_
  refine pw_iload_n hX rfl dX4_makes_16 (q := 17) rfl ?_
  refine pw_iload_n hX rfl dX4_makes_17 (q := 18) rfl ?_
  refine pw_csI2 hX dX4_makes_18 (q := 21) rfl mi_X4_place ml_X4_29 ⟨rfl, rfl, by decide, by decide⟩ rfl (Nat.le_of_ble_eq_true rfl) (c_X4_place) ?_
  refine pw_istore hX (by decide) dX4_makes_21 (q := 23) rfl ?_
  refine pw_aload_n hX rfl dX4_makes_23 (q := 24) rfl ?_
  refine pw_getMS hX 0 (by decide) fl_X4_7 rfl dX4_makes_24 (q := 27) rfl ?_
  refine pw_iload hX rfl dX4_makes_27 (q := 29) rfl ?_
  refine pw_iload_n hX rfl dX4_makes_29 (q := 30) rfl ?_
  refine pw_iastS hX (by omega) dX4_makes_30 (q := 31) rfl ?_
  refine pw_aload_n hX rfl dX4_makes_31 (q := 32) rfl ?_
  refine pw_getMS hX 0 (by decide) fl_X4_7 rfl dX4_makes_32 (q := 35) rfl ?_
  refine pw_iload hX rfl dX4_makes_35 (q := 37) rfl ?_
  refine pw_iconst hX (k := 1) rfl (by decide) dX4_makes_37 (q := 38) rfl ?_
  refine pw_iaddN hX dX4_makes_38 (q := 39) rfl ?_
  refine pw_aload_n hX rfl dX4_makes_39 (q := 40) rfl ?_
  refine pw_iload_n hX rfl dX4_makes_40 (q := 41) rfl ?_
  refine pw_iconst hX (k := 1) rfl (by decide) dX4_makes_41 (q := 42) rfl ?_
  refine pw_cvI2 hX dX4_makes_42 (q := 45) rfl mi_X4_vi ml_X4_37 rcM ⟨rfl, rfl, by decide, by decide⟩ rfl (Nat.le_of_ble_eq_true rfl) (c_X4_vi (by first | assumption | omega) (by first | assumption | omega)) ?_
  refine pw_iastS hX (by omega) dX4_makes_45 (q := 46) rfl ?_
  refine pw_aload_n hX rfl dX4_makes_46 (q := 47) rfl ?_
  refine pw_getMS hX 0 (by decide) fl_X4_7 rfl dX4_makes_47 (q := 50) rfl ?_
  refine pw_iload hX rfl dX4_makes_50 (q := 52) rfl ?_
  refine pw_iconst hX (k := 2) rfl (by decide) dX4_makes_52 (q := 53) rfl ?_
  refine pw_iaddN hX dX4_makes_53 (q := 54) rfl ?_
  refine pw_iload_n hX rfl dX4_makes_54 (q := 55) rfl ?_
  refine pw_iastS hX (by omega) dX4_makes_55 (q := 56) rfl ?_
  refine pw_aload_n hX rfl dX4_makes_56 (q := 57) rfl ?_
  refine pw_getMS hX 0 (by decide) fl_X4_7 rfl dX4_makes_57 (q := 60) rfl ?_
  refine pw_iload hX rfl dX4_makes_60 (q := 62) rfl ?_
  refine pw_iconst hX (k := 3) rfl (by decide) dX4_makes_62 (q := 63) rfl ?_
  refine pw_iaddN hX dX4_makes_63 (q := 64) rfl ?_
  refine pw_iload hX rfl dX4_makes_64 (q := 66) rfl ?_
  refine pw_iastS hX (by omega) dX4_makes_66 (q := 67) rfl ?_
  refine pw_aload_n hX rfl dX4_makes_67 (q := 68) rfl ?_
  refine pw_getMS hX 0 (by decide) fl_X4_7 rfl dX4_makes_68 (q := 71) rfl ?_
  refine pw_iload hX rfl dX4_makes_71 (q := 73) rfl ?_
  refine pw_iconst hX (k := 4) rfl (by decide) dX4_makes_73 (q := 74) rfl ?_
  refine pw_iaddN hX dX4_makes_74 (q := 75) rfl ?_
  refine pw_iload hX rfl dX4_makes_75 (q := 77) rfl ?_
  refine pw_iastS hX (by omega) dX4_makes_77 (q := 78) rfl ?_
  refine pw_aload_n hX rfl dX4_makes_78 (q := 79) rfl ?_
  refine pw_getMS hX 0 (by decide) fl_X4_7 rfl dX4_makes_79 (q := 82) rfl ?_
  refine pw_iload hX rfl dX4_makes_82 (q := 84) rfl ?_
  refine pw_iconst hX (k := 5) rfl (by decide) dX4_makes_84 (q := 85) rfl ?_
  refine pw_iaddN hX dX4_makes_85 (q := 86) rfl ?_
  refine pw_aload_n hX rfl dX4_makes_86 (q := 87) rfl ?_
  refine pw_getMS hX 0 (by decide) fl_X4_7 rfl dX4_makes_87 (q := 90) rfl ?_
  refine pw_iconst hX (k := 1) rfl (by decide) dX4_makes_90 (q := 91) rfl ?_
  refine pw_ialdS hX (by omega) dX4_makes_91 (q := 92) rfl ?_
  refine pw_iastS hX (by omega) dX4_makes_92 (q := 93) rfl ?_
  refine pw_aload_n hX rfl dX4_makes_93 (q := 94) rfl ?_
  refine pw_getMS hX 0 (by decide) fl_X4_7 rfl dX4_makes_94 (q := 97) rfl ?_
  refine pw_iload hX rfl dX4_makes_97 (q := 99) rfl ?_
  refine pw_bipush hX (k := 6) (by decide) dX4_makes_99 (q := 101) rfl ?_
  refine pw_iaddN hX dX4_makes_101 (q := 102) rfl ?_
  refine pw_iconst hX (k := 1) rfl (by decide) dX4_makes_102 (q := 103) rfl ?_
  refine pw_iload_n hX rfl dX4_makes_103 (q := 104) rfl ?_
  refine pw_ishl1 hX (by omega) dX4_makes_104 (q := 105) rfl ?_
  refine pw_iastS hX (by omega) dX4_makes_105 (q := 106) rfl ?_
  refine pw_aload_n hX rfl dX4_makes_106 (q := 107) rfl ?_
  refine pw_iload_n hX rfl dX4_makes_107 (q := 108) rfl ?_
  refine pw_iconst hX (k := 1) rfl (by decide) dX4_makes_108 (q := 109) rfl ?_
  refine pw_cvI2 hX dX4_makes_109 (q := 112) rfl mi_X4_vi ml_X4_37 rcM ⟨rfl, rfl, by decide, by decide⟩ rfl (Nat.le_of_ble_eq_true rfl) (c_X4_vi (by first | assumption | omega) (by first | assumption | omega)) ?_
  refine pw_ireturn hX dX4_makes_112 ⟨_, rfl, rfl⟩ ⟨congrArg (fun z => some (Value.int z)) ?_, ?_⟩
  · rfl
  · rfl
abbrev rm_X4_tells : Room := { frames := 2, cells := 0, slots := 0, locals := 48 }
set_option maxHeartbeats 4000000 in
set_option maxRecDepth 20000 in
theorem c_X4_tells {l : Launch} {g : Geo} {w : WD} {V : Nat → Nat → Nat} {S : Nat → Nat} {v t a k : Int32} (hB : bS S) : CtI l g yX4_tells cX4_tells 5 (some .int) rm_X4_tells [.ref (g_ad g 9 0), .int v, .int t, .int a, .int k] (mW w V S) ((mTells S v t a k).2) (mW w V (mTells S v t a k).1) := by
  refine ct_of mi_X4_tells.2.2.2.2.2 ⟨rfl, rfl⟩ (List.forall_mem_cons.mpr ⟨rfl, List.forall_mem_cons.mpr ⟨rfl, List.forall_mem_cons.mpr ⟨rfl, List.forall_mem_cons.mpr ⟨rfl, List.forall_mem_cons.mpr ⟨rfl, fun _ h => absurd h List.not_mem_nil⟩⟩⟩⟩⟩) (Nat.le_of_ble_eq_true rfl) (fun P hX => ?_)
  replace hX : Gd l g RX4 cX4_tells rm_X4_tells 5 (some .int) _ _ P := hX
  show P (mW w V S) 0 [some (.ref (g_ad g 9 0)), some (.int v), some (.int t), some (.int a), some (.int k)] []
  have h7 := hB.2.2.1
  refine pw_aload_n hX rfl dX4_tells_0 (q := 1) rfl ?_
  refine pw_iload_n hX rfl dX4_tells_1 (q := 2) rfl ?_
  refine pw_cvI1 hX dX4_tells_2 (q := 5) rfl mi_X4_isVillager ml_X4_53 rcM ⟨rfl, rfl, by decide, by decide⟩ rfl (Nat.le_of_ble_eq_true rfl) (c_X4_isVillager (by first | assumption | omega)) ?_
  refine pw_ifB_eq hX (tgt := 35) dX4_tells_5 (q := 8) rfl (by decide) (fun h_5 => ?_) (fun h_5 => ?_)
  · refine pw_ldc hX cn_X4_40 dX4_tells_35 (q := 37) rfl ?_
    refine pw_ireturn hX dX4_tells_37 ⟨_, rfl, rfl⟩ ⟨congrArg (fun z => some (Value.int z)) ?_, ?_⟩
    · rw [mTells, if_neg (by rintro ⟨a1, a2, a3, a4⟩; simp_all)]
    · first | (rw [mTells, if_pos ⟨h_5, h_12, h_22, h_32⟩, hx, hxj, hxb, hxk]; first | rw [if_pos h_43] | rw [if_neg h_43]) | (rw [mTells, if_neg (by rintro ⟨a1, a2, a3, a4⟩; simp_all)])
  · obtain ⟨i, hi, rfl⟩ := hasN_of (by have := hB.2.2.1; omega) h_5
    have hx : ix (nI i) = i := ix_nI (by have := hB.2.2.1; omega)
    have h7 := hB.2.2.1
    refine pw_iload_n hX rfl dX4_tells_8 (q := 9) rfl ?_
    refine pw_csI1 hX dX4_tells_9 (q := 12) rfl mi_X4_isTopic ml_X4_88 ⟨rfl, rfl, by decide, by decide⟩ rfl (Nat.le_of_ble_eq_true rfl) (c_X4_isTopic) ?_
    refine pw_ifB_eq hX (tgt := 35) dX4_tells_12 (q := 15) rfl (by decide) (fun h_12 => ?_) (fun h_12 => ?_)
    · refine pw_ldc hX cn_X4_40 dX4_tells_35 (q := 37) rfl ?_
      refine pw_ireturn hX dX4_tells_37 ⟨_, rfl, rfl⟩ ⟨congrArg (fun z => some (Value.int z)) ?_, ?_⟩
      · rw [mTells, if_neg (by rintro ⟨a1, a2, a3, a4⟩; simp_all)]
      · first | (rw [mTells, if_pos ⟨h_5, h_12, h_22, h_32⟩, hx, hxj, hxb, hxk]; first | rw [if_pos h_43] | rw [if_neg h_43]) | (rw [mTells, if_neg (by rintro ⟨a1, a2, a3, a4⟩; simp_all)])
    · obtain ⟨j, hj, rfl⟩ := hasN_of (by decide) h_12
      have hxj : ix (nI j) = j := ix_nI (by omega)
      refine pw_iload_n hX rfl dX4_tells_15 (q := 16) rfl ?_
      refine pw_iconst hX (k := 0) rfl (by decide) dX4_tells_16 (q := 17) rfl ?_
      refine pw_bipush hX (k := 99) (by decide) dX4_tells_17 (q := 19) rfl ?_
      refine pw_csI3 hX dX4_tells_19 (q := 22) rfl mi_X4_in ml_X4_33 ⟨rfl, rfl, by decide, by decide⟩ rfl (Nat.le_of_ble_eq_true rfl) (c_X4_inN (by decide) (by decide)) ?_
      refine pw_ifB_eq hX (tgt := 35) dX4_tells_22 (q := 25) rfl (by decide) (fun h_22 => ?_) (fun h_22 => ?_)
      · refine pw_ldc hX cn_X4_40 dX4_tells_35 (q := 37) rfl ?_
        refine pw_ireturn hX dX4_tells_37 ⟨_, rfl, rfl⟩ ⟨congrArg (fun z => some (Value.int z)) ?_, ?_⟩
        · rw [mTells, if_neg (by rintro ⟨a1, a2, a3, a4⟩; simp_all)]
        · first | (rw [mTells, if_pos ⟨h_5, h_12, h_22, h_32⟩, hx, hxj, hxb, hxk]; first | rw [if_pos h_43] | rw [if_neg h_43]) | (rw [mTells, if_neg (by rintro ⟨a1, a2, a3, a4⟩; simp_all)])
      · obtain ⟨b, -, hb, rfl⟩ := inN_of (by decide) h_22
        have hxb : ix (nI b) = b := ix_nI (by omega)
        refine pw_iload hX rfl dX4_tells_25 (q := 27) rfl ?_
        refine pw_iconst hX (k := 0) rfl (by decide) dX4_tells_27 (q := 28) rfl ?_
        refine pw_iconst hX (k := 2) rfl (by decide) dX4_tells_28 (q := 29) rfl ?_
        refine pw_csI3 hX dX4_tells_29 (q := 32) rfl mi_X4_in ml_X4_33 ⟨rfl, rfl, by decide, by decide⟩ rfl (Nat.le_of_ble_eq_true rfl) (c_X4_inN (by decide) (by decide)) ?_
        refine pw_ifB_ne hX (tgt := 38) dX4_tells_32 (q := 35) rfl (by decide) (fun h_32 => ?_) (fun h_32 => ?_)
        · obtain ⟨k, -, hk, rfl⟩ := inN_of (by decide) h_32
          have hxk : ix (nI k) = k := ix_nI (by omega)
          refine pw_aload_n hX rfl dX4_tells_38 (q := 39) rfl ?_
          refine pw_iload_n hX rfl dX4_tells_39 (q := 40) rfl ?_
          refine pw_cvI1 hX dX4_tells_40 (q := 43) rfl mi_X4_isAwake ml_X4_57 rcM ⟨rfl, rfl, by decide, by decide⟩ rfl (Nat.le_of_ble_eq_true rfl) (c_X4_isAwake (by first | assumption | omega) (by first | assumption | omega)) ?_
          refine pw_ifB_eq hX (tgt := 59) dX4_tells_43 (q := 46) rfl (by decide) (fun h_43 => ?_) (fun h_43 => ?_)
          · have h_43 := of_decide_eq_false h_43
            refine pw_ldc hX cn_X4_60 dX4_tells_59 (q := 61) rfl ?_
            refine pw_ireturn hX dX4_tells_61 ⟨_, rfl, rfl⟩ ⟨congrArg (fun z => some (Value.int z)) ?_, ?_⟩
            · rw [mTells, if_pos ⟨h_5, h_12, h_22, h_32⟩, hx, hxj, hxb, hxk]; first | rw [if_pos h_43] | rw [if_neg h_43]
            · first | (rw [mTells, if_pos ⟨h_5, h_12, h_22, h_32⟩, hx, hxj, hxb, hxk]; first | rw [if_pos h_43] | rw [if_neg h_43]) | (rw [mTells, if_neg (by rintro ⟨a1, a2, a3, a4⟩; simp_all)])
          · have h_43 := of_decide_eq_true h_43
            refine pw_aload_n hX rfl dX4_tells_46 (q := 47) rfl ?_
            refine pw_iload_n hX rfl dX4_tells_47 (q := 48) rfl ?_
            refine pw_iload_n hX rfl dX4_tells_48 (q := 49) rfl ?_
            refine pw_iconst hX (k := 1) rfl (by decide) dX4_tells_49 (q := 50) rfl ?_
            refine pw_iload_n hX rfl dX4_tells_50 (q := 51) rfl ?_
            refine pw_iload hX rfl dX4_tells_51 (q := 53) rfl ?_
            refine pw_cvI5 hX dX4_tells_53 (q := 56) rfl mi_X4_makes ml_X4_91 rcM ⟨rfl, rfl, by decide, by decide⟩ rfl (Nat.le_of_ble_eq_true rfl) (c_X4_makes (by first | assumption | omega) (by first | assumption | omega)) ?_
            refine pw_goto hX (tgt := 61) dX4_tells_56 (by decide) ?_
            refine pw_ireturn hX dX4_tells_61 ⟨_, rfl, rfl⟩ ⟨congrArg (fun z => some (Value.int z)) ?_, ?_⟩
            · rw [mTells, if_pos ⟨h_5, h_12, h_22, h_32⟩, hx, hxj, hxb, hxk]; first | rw [if_pos h_43] | rw [if_neg h_43]
            · first | (rw [mTells, if_pos ⟨h_5, h_12, h_22, h_32⟩, hx, hxj, hxb, hxk]; first | rw [if_pos h_43] | rw [if_neg h_43]) | (rw [mTells, if_neg (by rintro ⟨a1, a2, a3, a4⟩; simp_all)])
        · refine pw_ldc hX cn_X4_40 dX4_tells_35 (q := 37) rfl ?_
          refine pw_ireturn hX dX4_tells_37 ⟨_, rfl, rfl⟩ ⟨congrArg (fun z => some (Value.int z)) ?_, ?_⟩
          · rw [mTells, if_neg (by rintro ⟨a1, a2, a3, a4⟩; simp_all)]
          · first | (rw [mTells, if_pos ⟨h_5, h_12, h_22, h_32⟩, hx, hxj, hxb, hxk]; first | rw [if_pos h_43] | rw [if_neg h_43]) | (rw [mTells, if_neg (by rintro ⟨a1, a2, a3, a4⟩; simp_all)])
abbrev rm_X4_tell : Room := { frames := 3, cells := 0, slots := 0, locals := 72 }
set_option maxHeartbeats 4000000 in
set_option maxRecDepth 20000 in
theorem c_X4_tell {l : Launch} {g : Geo} {w : WD} {V : Nat → Nat → Nat} {S : Nat → Nat} {v t a k : Int32} (h4 : V 0 4 ≤ 4) (hB : bS S) : CtI l g yX4_tell cX4_tell 5 (some .int) rm_X4_tell [.ref (g_ad g 9 0), .int v, .int t, .int a, .int k] (mW w V S) ((mTells S v t a k).2) (mW w (mActed (vA V 3 S) (mTells S v t a k).2) (mTells S v t a k).1) := by
  refine ct_of mi_X4_tell.2.2.2.2.2 ⟨rfl, rfl⟩ (List.forall_mem_cons.mpr ⟨rfl, List.forall_mem_cons.mpr ⟨rfl, List.forall_mem_cons.mpr ⟨rfl, List.forall_mem_cons.mpr ⟨rfl, List.forall_mem_cons.mpr ⟨rfl, fun _ h => absurd h List.not_mem_nil⟩⟩⟩⟩⟩) (Nat.le_of_ble_eq_true rfl) (fun P hX => ?_)
  replace hX : Gd l g RX4 cX4_tell rm_X4_tell 5 (some .int) _ _ P := hX
  show P (mW w V S) 0 [some (.ref (g_ad g 9 0)), some (.int v), some (.int t), some (.int a), some (.int k)] []
  have h7 := hB.2.2.1
  refine pw_aload_n hX rfl dX4_tell_0 (q := 1) rfl ?_
  refine pw_cvV0 hX dX4_tell_1 (q := 4) rfl mi_X4_keeps ml_X4_46 rcM ⟨rfl, rfl, by decide, by decide⟩ rfl (Nat.le_of_ble_eq_true rfl) (c_X4_keeps) ?_
  refine pw_aload_n hX rfl dX4_tell_4 (q := 5) rfl ?_
  refine pw_aload_n hX rfl dX4_tell_5 (q := 6) rfl ?_
  refine pw_iload_n hX rfl dX4_tell_6 (q := 7) rfl ?_
  refine pw_iload_n hX rfl dX4_tell_7 (q := 8) rfl ?_
  refine pw_iload_n hX rfl dX4_tell_8 (q := 9) rfl ?_
  refine pw_iload hX rfl dX4_tell_9 (q := 11) rfl ?_
  refine pw_cvI4 hX dX4_tell_11 (q := 14) rfl mi_X4_tells ml_X4_95 rcM ⟨rfl, rfl, by decide, by decide⟩ rfl (Nat.le_of_ble_eq_true rfl) (c_X4_tells hB) ?_
  refine pw_cvI1 hX dX4_tell_14 (q := 17) rfl mi_X4_acted ml_X4_49 rcM ⟨rfl, rfl, by decide, by decide⟩ rfl (Nat.le_of_ble_eq_true rfl) (c_X4_acted (show (vA V 3 S) 0 4 ≤ 4 from h4)) ?_
  refine pw_ireturn hX dX4_tell_17 ⟨_, rfl, rfl⟩ ⟨congrArg (fun z => some (Value.int z)) ?_, ?_⟩
  · rfl
  · rfl
abbrev rm_X4_buries : Room := { frames := 2, cells := 0, slots := 0, locals := 48 }
set_option maxHeartbeats 4000000 in
set_option maxRecDepth 20000 in
theorem c_X4_buries {l : Launch} {g : Geo} {w : WD} {V : Nat → Nat → Nat} {S : Nat → Nat} {v t : Int32} (hB : bS S) : CtI l g yX4_buries cX4_buries 4 (some .int) rm_X4_buries [.ref (g_ad g 9 0), .int v, .int t] (mW w V S) ((mBuries S v t).2) (mW w V (mBuries S v t).1) := by
  refine ct_of mi_X4_buries.2.2.2.2.2 ⟨rfl, rfl⟩ (List.forall_mem_cons.mpr ⟨rfl, List.forall_mem_cons.mpr ⟨rfl, List.forall_mem_cons.mpr ⟨rfl, fun _ h => absurd h List.not_mem_nil⟩⟩⟩) (Nat.le_of_ble_eq_true rfl) (fun P hX => ?_)
  replace hX : Gd l g RX4 cX4_buries rm_X4_buries 4 (some .int) _ _ P := hX
  show P (mW w V S) 0 [some (.ref (g_ad g 9 0)), some (.int v), some (.int t), none] []
  have h7 := hB.2.2.1
  refine pw_aload_n hX rfl dX4_buries_0 (q := 1) rfl ?_
  refine pw_iload_n hX rfl dX4_buries_1 (q := 2) rfl ?_
  refine pw_cvI1 hX dX4_buries_2 (q := 5) rfl mi_X4_isVillager ml_X4_53 rcM ⟨rfl, rfl, by decide, by decide⟩ rfl (Nat.le_of_ble_eq_true rfl) (c_X4_isVillager (by first | assumption | omega)) ?_
  refine pw_ifB_eq hX (tgt := 15) dX4_buries_5 (q := 8) rfl (by decide) (fun h_5 => ?_) (fun h_5 => ?_)
  · refine pw_ldc hX cn_X4_40 dX4_buries_15 (q := 17) rfl ?_
    refine pw_ireturn hX dX4_buries_17 ⟨_, rfl, rfl⟩ ⟨congrArg (fun z => some (Value.int z)) ?_, ?_⟩
    · rw [mBuries, if_neg (by rintro ⟨a1, a2⟩; simp_all)]
    · rw [mBuries, if_neg (by rintro ⟨a1, a2⟩; simp_all)]
  · obtain ⟨i, hi, rfl⟩ := hasN_of (by have := hB.2.2.1; omega) h_5
    have hx : ix (nI i) = i := ix_nI (by have := hB.2.2.1; omega)
    have h7 := hB.2.2.1
    refine pw_iload_n hX rfl dX4_buries_8 (q := 9) rfl ?_
    refine pw_csI1 hX dX4_buries_9 (q := 12) rfl mi_X4_isTopic ml_X4_88 ⟨rfl, rfl, by decide, by decide⟩ rfl (Nat.le_of_ble_eq_true rfl) (c_X4_isTopic) ?_
    refine pw_ifB_ne hX (tgt := 18) dX4_buries_12 (q := 15) rfl (by decide) (fun h_12 => ?_) (fun h_12 => ?_)
    · obtain ⟨j, hj, rfl⟩ := hasN_of (by decide) h_12
      have hxj : ix (nI j) = j := ix_nI (by omega)
      refine pw_aload_n hX rfl dX4_buries_18 (q := 19) rfl ?_
      refine pw_iload_n hX rfl dX4_buries_19 (q := 20) rfl ?_
      refine pw_cvI1 hX dX4_buries_20 (q := 23) rfl mi_X4_isAwake ml_X4_57 rcM ⟨rfl, rfl, by decide, by decide⟩ rfl (Nat.le_of_ble_eq_true rfl) (c_X4_isAwake (by first | assumption | omega) (by first | assumption | omega)) ?_
      refine pw_ifB_eq hX (tgt := 37) dX4_buries_23 (q := 26) rfl (by decide) (fun h_23 => ?_) (fun h_23 => ?_)
      · have h_23 := of_decide_eq_false h_23
        refine pw_ldc hX cn_X4_60 dX4_buries_37 (q := 39) rfl ?_
        refine pw_ireturn hX dX4_buries_39 ⟨_, rfl, rfl⟩ ⟨congrArg (fun z => some (Value.int z)) ?_, ?_⟩
        · rw [mBuries, if_pos ⟨h_5, h_12⟩, hx, hxj, if_neg (by omega)]
        · rw [mBuries, if_pos ⟨h_5, h_12⟩, hx, hxj, if_neg (by omega)]
      · have h_23 := of_decide_eq_true h_23
        refine pw_aload_n hX rfl dX4_buries_26 (q := 27) rfl ?_
        refine pw_iload_n hX rfl dX4_buries_27 (q := 28) rfl ?_
        refine pw_iload_n hX rfl dX4_buries_28 (q := 29) rfl ?_
        refine pw_iconst hX (k := 0) rfl (by decide) dX4_buries_29 (q := 30) rfl ?_
        refine pw_cvI3 hX dX4_buries_30 (q := 33) rfl mi_X4_en ml_X4_73 rcM ⟨rfl, rfl, by decide, by decide⟩ rfl (Nat.le_of_ble_eq_true rfl) (c_X4_en (by first | assumption | omega) (by first | assumption | omega) (by first | assumption | omega)) ?_
        refine pw_iconst hX (k := 1) rfl (by decide) dX4_buries_33 (q := 34) rfl ?_
        refine pw_icmpN_eq hX (by first | omega | exact bS0 hB | exact bSw hB (by omega) (by omega) (by omega) | exact bSe hB (by omega) (by omega) | exact bS1 hB | exact bS2 hB) (by first | omega | exact bS0 hB | exact bSw hB (by omega) (by omega) (by omega) | exact bSe hB (by omega) (by omega) | exact bS1 hB | exact bS2 hB) (tgt := 40) dX4_buries_34 (q := 37) rfl (by decide) (fun h_34 => ?_) (fun h_34 => ?_)
        · refine pw_aload_n hX rfl dX4_buries_40 (q := 41) rfl ?_
          refine pw_iload_n hX rfl dX4_buries_41 (q := 42) rfl ?_
          refine pw_iload_n hX rfl dX4_buries_42 (q := 43) rfl ?_
          refine pw_iconst hX (k := 2) rfl (by decide) dX4_buries_43 (q := 44) rfl ?_
          refine pw_iconst hX (k := 0) rfl (by decide) dX4_buries_44 (q := 45) rfl ?_
          refine pw_iconst hX (k := 0) rfl (by decide) dX4_buries_45 (q := 46) rfl ?_
          refine pw_cvI5 hX dX4_buries_46 (q := 49) rfl mi_X4_makes ml_X4_91 rcM ⟨rfl, rfl, by decide, by decide⟩ rfl (Nat.le_of_ble_eq_true rfl) (c_X4_makes (by first | assumption | omega) (by first | assumption | omega)) ?_
          refine pw_istore_n hX (by decide) dX4_buries_49 (q := 50) rfl ?_
          refine pw_aload_n hX rfl dX4_buries_50 (q := 51) rfl ?_
          refine pw_getMS hX 0 (by decide) fl_X4_7 rfl dX4_buries_51 (q := 54) rfl ?_
          refine pw_iconst hX (k := 4) rfl (by decide) dX4_buries_54 (q := 55) rfl ?_
          refine pw_dup2 hX rfl rfl dX4_buries_55 (q := 56) rfl ?_
          refine pw_ialdS hX (by omega) dX4_buries_56 (q := 57) rfl ?_
          refine pw_iconst hX (k := 1) rfl (by decide) dX4_buries_57 (q := 58) rfl ?_
          refine pw_iaddN hX dX4_buries_58 (q := 59) rfl ?_
          refine pw_iastS hX (by omega) dX4_buries_59 (q := 60) rfl ?_
          refine pw_iload_n hX rfl dX4_buries_60 (q := 61) rfl ?_
          refine pw_iload_n hX rfl dX4_buries_61 (q := 62) rfl ?_
          refine pw_aload_n hX rfl dX4_buries_62 (q := 63) rfl ?_
          refine pw_getMS hX 0 (by decide) fl_X4_7 rfl dX4_buries_63 (q := 66) rfl ?_
          refine pw_bipush hX (k := 33) (by decide) dX4_buries_66 (q := 68) rfl ?_
          refine pw_iconst hX (k := 2) rfl (by decide) dX4_buries_68 (q := 69) rfl ?_
          refine pw_iload_n hX rfl dX4_buries_69 (q := 70) rfl ?_
          refine pw_imulN hX dX4_buries_70 (q := 71) rfl ?_
          refine pw_iaddN hX dX4_buries_71 (q := 72) rfl ?_
          refine pw_ialdS hX (by omega) dX4_buries_72 (q := 73) rfl ?_
          refine pw_aload_n hX rfl dX4_buries_73 (q := 74) rfl ?_
          refine pw_getMS hX 0 (by decide) fl_X4_7 rfl dX4_buries_74 (q := 77) rfl ?_
          refine pw_bipush hX (k := 33) (by decide) dX4_buries_77 (q := 79) rfl ?_
          refine pw_iconst hX (k := 2) rfl (by decide) dX4_buries_79 (q := 80) rfl ?_
          refine pw_iload_n hX rfl dX4_buries_80 (q := 81) rfl ?_
          refine pw_imulN hX dX4_buries_81 (q := 82) rfl ?_
          refine pw_iaddN hX dX4_buries_82 (q := 83) rfl ?_
          refine pw_iconst hX (k := 1) rfl (by decide) dX4_buries_83 (q := 84) rfl ?_
          refine pw_iaddN hX dX4_buries_84 (q := 85) rfl ?_
          refine pw_ialdS hX (by omega) dX4_buries_85 (q := 86) rfl ?_
          refine pw_csI4 hX dX4_buries_86 (q := 89) rfl mi_X4_isNewer ml_X4_81 ⟨rfl, rfl, by decide, by decide⟩ rfl (Nat.le_of_ble_eq_true rfl) (c_X4_isNewer (by rw [mMake_c S (by omega)]; have := hB.2.1 i 1 (by omega) (by decide) (by decide); omega) (by omega) (by rw [upN_n _ _ (by omega), mMake_n S (by omega) (by omega)]; exact bSe hB (by omega) (by omega)) (by rw [upN_n _ _ (by omega), mMake_n S (by omega) (by omega)]; exact bSe hB (by omega) (by omega))) ?_
          refine pw_ifB_eq hX (tgt := 118) dX4_buries_89 (q := 92) rfl (by decide) (fun h_89 => ?_) (fun h_89 => ?_)
          · refine pw_iload_n hX rfl dX4_buries_118 (q := 119) rfl ?_
            refine pw_ireturn hX dX4_buries_119 ⟨_, rfl, rfl⟩ ⟨congrArg (fun z => some (Value.int z)) ?_, ?_⟩
            · rw [mBuries, if_pos ⟨h_5, h_12⟩, hx, hxj, if_pos ⟨h_23, h_34⟩]
            · rw [mBuries, if_pos ⟨h_5, h_12⟩, hx, hxj, if_pos ⟨h_23, h_34⟩]; refine mW_eS ?_; unfold mBury; first | rw [if_pos h_89] | rw [if_neg (by simp [h_89])]
          · refine pw_aload_n hX rfl dX4_buries_92 (q := 93) rfl ?_
            refine pw_getMS hX 0 (by decide) fl_X4_7 rfl dX4_buries_93 (q := 96) rfl ?_
            refine pw_bipush hX (k := 33) (by decide) dX4_buries_96 (q := 98) rfl ?_
            refine pw_iconst hX (k := 2) rfl (by decide) dX4_buries_98 (q := 99) rfl ?_
            refine pw_iload_n hX rfl dX4_buries_99 (q := 100) rfl ?_
            refine pw_imulN hX dX4_buries_100 (q := 101) rfl ?_
            refine pw_iaddN hX dX4_buries_101 (q := 102) rfl ?_
            refine pw_iload_n hX rfl dX4_buries_102 (q := 103) rfl ?_
            refine pw_iastS hX (by omega) dX4_buries_103 (q := 104) rfl ?_
            refine pw_aload_n hX rfl dX4_buries_104 (q := 105) rfl ?_
            refine pw_getMS hX 0 (by decide) fl_X4_7 rfl dX4_buries_105 (q := 108) rfl ?_
            refine pw_bipush hX (k := 33) (by decide) dX4_buries_108 (q := 110) rfl ?_
            refine pw_iconst hX (k := 2) rfl (by decide) dX4_buries_110 (q := 111) rfl ?_
            refine pw_iload_n hX rfl dX4_buries_111 (q := 112) rfl ?_
            refine pw_imulN hX dX4_buries_112 (q := 113) rfl ?_
            refine pw_iaddN hX dX4_buries_113 (q := 114) rfl ?_
            refine pw_iconst hX (k := 1) rfl (by decide) dX4_buries_114 (q := 115) rfl ?_
            refine pw_iaddN hX dX4_buries_115 (q := 116) rfl ?_
            refine pw_iload_n hX rfl dX4_buries_116 (q := 117) rfl ?_
            refine pw_iastS hX (by omega) dX4_buries_117 (q := 118) rfl ?_
            refine pw_iload_n hX rfl dX4_buries_118 (q := 119) rfl ?_
            refine pw_ireturn hX dX4_buries_119 ⟨_, rfl, rfl⟩ ⟨congrArg (fun z => some (Value.int z)) ?_, ?_⟩
            · rw [mBuries, if_pos ⟨h_5, h_12⟩, hx, hxj, if_pos ⟨h_23, h_34⟩]
            · rw [mBuries, if_pos ⟨h_5, h_12⟩, hx, hxj, if_pos ⟨h_23, h_34⟩]; refine mW_eS ?_; unfold mBury; first | rw [if_pos h_89] | rw [if_neg (by simp [h_89])]
        · refine pw_ldc hX cn_X4_60 dX4_buries_37 (q := 39) rfl ?_
          refine pw_ireturn hX dX4_buries_39 ⟨_, rfl, rfl⟩ ⟨congrArg (fun z => some (Value.int z)) ?_, ?_⟩
          · rw [mBuries, if_pos ⟨h_5, h_12⟩, hx, hxj, if_neg (by omega)]
          · rw [mBuries, if_pos ⟨h_5, h_12⟩, hx, hxj, if_neg (by omega)]
    · refine pw_ldc hX cn_X4_40 dX4_buries_15 (q := 17) rfl ?_
      refine pw_ireturn hX dX4_buries_17 ⟨_, rfl, rfl⟩ ⟨congrArg (fun z => some (Value.int z)) ?_, ?_⟩
      · rw [mBuries, if_neg (by rintro ⟨a1, a2⟩; simp_all)]
      · rw [mBuries, if_neg (by rintro ⟨a1, a2⟩; simp_all)]
abbrev rm_X4_bury : Room := { frames := 3, cells := 0, slots := 0, locals := 71 }
set_option maxHeartbeats 4000000 in
set_option maxRecDepth 20000 in
theorem c_X4_bury {l : Launch} {g : Geo} {w : WD} {V : Nat → Nat → Nat} {S : Nat → Nat} {v t : Int32} (h4 : V 0 4 ≤ 4) (hB : bS S) : CtI l g yX4_bury cX4_bury 3 (some .int) rm_X4_bury [.ref (g_ad g 9 0), .int v, .int t] (mW w V S) ((mBuries S v t).2) (mW w (mActed (vA V 3 S) (mBuries S v t).2) (mBuries S v t).1) := by
  refine ct_of mi_X4_bury.2.2.2.2.2 ⟨rfl, rfl⟩ (List.forall_mem_cons.mpr ⟨rfl, List.forall_mem_cons.mpr ⟨rfl, List.forall_mem_cons.mpr ⟨rfl, fun _ h => absurd h List.not_mem_nil⟩⟩⟩) (Nat.le_of_ble_eq_true rfl) (fun P hX => ?_)
  replace hX : Gd l g RX4 cX4_bury rm_X4_bury 3 (some .int) _ _ P := hX
  show P (mW w V S) 0 [some (.ref (g_ad g 9 0)), some (.int v), some (.int t)] []
  have h7 := hB.2.2.1
  refine pw_aload_n hX rfl dX4_bury_0 (q := 1) rfl ?_
  refine pw_cvV0 hX dX4_bury_1 (q := 4) rfl mi_X4_keeps ml_X4_46 rcM ⟨rfl, rfl, by decide, by decide⟩ rfl (Nat.le_of_ble_eq_true rfl) (c_X4_keeps) ?_
  refine pw_aload_n hX rfl dX4_bury_4 (q := 5) rfl ?_
  refine pw_aload_n hX rfl dX4_bury_5 (q := 6) rfl ?_
  refine pw_iload_n hX rfl dX4_bury_6 (q := 7) rfl ?_
  refine pw_iload_n hX rfl dX4_bury_7 (q := 8) rfl ?_
  refine pw_cvI2 hX dX4_bury_8 (q := 11) rfl mi_X4_buries ml_X4_99 rcM ⟨rfl, rfl, by decide, by decide⟩ rfl (Nat.le_of_ble_eq_true rfl) (c_X4_buries hB) ?_
  refine pw_cvI1 hX dX4_bury_11 (q := 14) rfl mi_X4_acted ml_X4_49 rcM ⟨rfl, rfl, by decide, by decide⟩ rfl (Nat.le_of_ble_eq_true rfl) (c_X4_acted (show (vA V 3 S) 0 4 ≤ 4 from h4)) ?_
  refine pw_ireturn hX dX4_bury_14 ⟨_, rfl, rfl⟩ ⟨congrArg (fun z => some (Value.int z)) ?_, ?_⟩
  · rfl
  · rfl
end
section
def mKind (S : Nat → Nat) (f t : Nat) : Nat := if S (225 + 84 * f + 7 * t + 0) = 2 then 0 else S (225 + 84 * f + 7 * t + 4)
def mMay (S : Nat → Nat) (f p t : Nat) : Bool := decide (mKind S f t = 0 ∨ (S (225 + 84 * f + 7 * t + 2) = f ∧ (mKind S f t = 1 ∨ f < p)))
def mGho (S : Nat → Nat) (f p t : Nat) : Bool := decide (S (225 + 84 * f + 7 * t + 0) = 1 ∧ mNewer (S (57 + 24 * p + 2 * t)) (S (57 + 24 * p + 2 * t + 1)) (S (225 + 84 * f + 7 * t + 1)) (S (225 + 84 * f + 7 * t + 2)) = true)
def cpE (S : Nat → Nat) (f p t n : Nat) : Nat → Nat := fun j => if 225 + 84 * p + 7 * t ≤ j ∧ j < 225 + 84 * p + 7 * t + n then S (225 + 84 * f + 7 * t + (j - (225 + 84 * p + 7 * t))) else S j
theorem cpE_0 (S : Nat → Nat) (f p t : Nat) : cpE S f p t 0 = S := funext (fun j => if_neg (by omega))
theorem cpE_r (S : Nat → Nat) {f p t n : Nat} (hn : n < 7) : cpE S f p t n (225 + 84 * f + 7 * t + n) = S (225 + 84 * f + 7 * t + n) := if_neg (by omega)
theorem cpE_s (S : Nat → Nat) {f p t n : Nat} (hn : n < 7) : upN (cpE S f p t n) (225 + 84 * p + 7 * t + n) (cpE S f p t n (225 + 84 * f + 7 * t + n)) = cpE S f p t (n + 1) := by
  rw [cpE_r S hn]
  funext j
  simp only [upN, cpE]
  by_cases h : j = 225 + 84 * p + 7 * t + n
  · rw [if_pos h, if_pos (by omega), h, show 225 + 84 * p + 7 * t + n - (225 + 84 * p + 7 * t) = n by omega]
  · rw [if_neg h]
    by_cases h2 : 225 + 84 * p + 7 * t ≤ j ∧ j < 225 + 84 * p + 7 * t + n
    · rw [if_pos h2, if_pos (by omega)]
    · rw [if_neg h2, if_neg (by omega)]
def mGh (S : Nat → Nat) (p : Nat) : Nat → Nat := upN (upN S (5 + 4 * p + 2) (S (5 + 4 * p + 2) + 1)) 3 (upN S (5 + 4 * p + 2) (S (5 + 4 * p + 2) + 1) 3 + 1)
def mPb (S : Nat → Nat) (f p t : Nat) : Bool := mHN S f p t && mMay S f p t
def mPs (S : Nat → Nat) (f p t : Nat) : Nat → Nat := if mPb S f p t = true then cpE (if mGho S f p t = true then mGh S p else S) f p t 7 else S
def mPr (S : Nat → Nat) (f p t : Nat) : Nat := if mPb S f p t = true then 1 else 0
theorem bS_g3 {S : Nat → Nat} (hB : bS S) (x : Nat) : bS (upN S 3 x) := by
  obtain ⟨h1, h2, h3, h4, h5⟩ := hB
  refine ⟨fun j a b => ?_, fun v k a b c => ?_, ?_, ?_, ?_⟩
  · rw [upN_n _ _ (by omega)]; exact h1 j a b
  · rw [upN_n _ _ (by omega)]; exact h2 v k a b c
  · rw [upN_n _ _ (by omega)]; exact h3
  · rw [upN_n _ _ (by omega)]; exact h4
  · rw [upN_n _ _ (by omega)]; exact h5
theorem bS_gm {S : Nat → Nat} (hB : bS S) {p : Nat} (hp : p < 7) (x : Nat) : bS (upN S (5 + 4 * p + 2) x) := by
  obtain ⟨h1, h2, h3, h4, h5⟩ := hB
  refine ⟨fun j a b => ?_, fun v k a b c => ?_, ?_, ?_, ?_⟩
  · rw [upN_n _ _ (by omega)]; exact h1 j a b
  · rw [upN_n _ _ (by omega)]; exact h2 v k a b c
  · rw [upN_n _ _ (by omega)]; exact h3
  · rw [upN_n _ _ (by omega)]; exact h4
  · rw [upN_n _ _ (by omega)]; exact h5
theorem bS_Gh {S : Nat → Nat} (hB : bS S) {p : Nat} (hp : p < 7) : bS (mGh S p) := bS_g3 (bS_gm hB hp _) _
theorem bS_cp {S : Nat → Nat} (hB : bS S) {f p t n : Nat} (hf : f < 7) (ht : t < 12) (hn : n ≤ 7) : bS (cpE S f p t n) := by
  obtain ⟨h1, h2, h3, h4, h5⟩ := hB
  refine ⟨fun j a b => ?_, fun v k a b c => ?_, ?_, ?_, ?_⟩
  · unfold cpE; split
    · exact h1 _ (by omega) (by omega)
    · exact h1 j a b
  · unfold cpE; rw [if_neg (by omega)]; exact h2 v k a b c
  · unfold cpE; rw [if_neg (by omega)]; exact h3
  · unfold cpE; rw [if_neg (by omega)]; exact h4
  · unfold cpE; rw [if_neg (by omega)]; exact h5
theorem bS_Ps {S : Nat → Nat} (hB : bS S) {f p t : Nat} (hf : f < 7) (hp : p < 7) (ht : t < 12) : bS (mPs S f p t) := by
  unfold mPs
  split
  · refine bS_cp ?_ hf ht (Nat.le_refl _)
    split
    · exact bS_Gh hB hp
    · exact hB
  · exact hB
def mSeen (S : Nat → Nat) (o p t : Nat) : Nat := S (225 + 84 * o + 7 * t + 6) ||| S (225 + 84 * p + 7 * t + 6) ||| 2 ^ o ||| 2 ^ p
def mSee (S : Nat → Nat) (o p t : Nat) : Nat → Nat := if S (225 + 84 * o + 7 * t + 0) = 2 ∧ S (225 + 84 * p + 7 * t + 0) = 2 ∧ mSame S o p t = true then upN (upN S (225 + 84 * o + 7 * t + 6) (mSeen S o p t)) (225 + 84 * p + 7 * t + 6) (mSeen S o p t) else S
theorem bS_See {S : Nat → Nat} (hB : bS S) {o p t : Nat} (ho : o < 7) (hp : p < 7) (ht : t < 12) : bS (mSee S o p t) := by
  unfold mSee
  split
  · have h : mSeen S o p t < 2 ^ 30 := by
      unfold mSeen
      refine Nat.or_lt_two_pow (Nat.or_lt_two_pow (Nat.or_lt_two_pow (hB.1 _ (by omega) (by omega)) (hB.1 _ (by omega) (by omega))) ?_) ?_
      · exact Nat.pow_lt_pow_right (by decide) (by omega)
      · exact Nat.pow_lt_pow_right (by decide) (by omega)
    exact bS_upN (bS_upN hB (by omega) h) (by omega) h
  · exact hB
/-- both ways of a topic's passing -/
def mP2s (S : Nat → Nat) (o p t : Nat) : Nat → Nat := if mPb S o p t = true then mPs S o p t else mPs S p o t
def mP2n (S : Nat → Nat) (o p t : Nat) : Nat := if mPb S o p t = true then 1 else mPr S p o t
def mMt (S : Nat → Nat) (o p : Nat) : Nat → (Nat → Nat) × Nat
  | 0 => (S, 0)
  | t + 1 => (mSee (mP2s (mMt S o p t).1 o p t) o p t, (mMt S o p t).2 + mP2n (mMt S o p t).1 o p t)
def mClk (S : Nat → Nat) (o p : Nat) : Nat := if S (5 + 4 * p + 1) < S (5 + 4 * o + 1) then S (5 + 4 * o + 1) else S (5 + 4 * p + 1)
def mMeet0 (S : Nat → Nat) (o p : Nat) : Nat → Nat := upN (upN S (5 + 4 * o + 1) (mClk S o p)) (5 + 4 * p + 1) (mClk S o p)
def mMeet (S : Nat → Nat) (o p : Nat) : (Nat → Nat) × Nat := mMt (mMeet0 S o p) o p 12
theorem bS_P2 {S : Nat → Nat} (hB : bS S) {o p t : Nat} (ho : o < 7) (hp : p < 7) (ht : t < 12) : bS (mP2s S o p t) := by
  unfold mP2s
  split
  · exact bS_Ps hB ho hp ht
  · exact bS_Ps hB hp ho ht
theorem bS_Mt {S : Nat → Nat} (hB : bS S) {o p : Nat} (ho : o < 7) (hp : p < 7) : ∀ t, t ≤ 12 → bS (mMt S o p t).1
  | 0, _ => hB
  | t + 1, ht => bS_See (bS_P2 (bS_Mt hB ho hp t (by omega)) ho hp (by omega)) ho hp (by omega)
theorem bS_Meet0 {S : Nat → Nat} (hB : bS S) {o p : Nat} (ho : o < 7) (hp : p < 7) : bS (mMeet0 S o p) := by
  have h1 := hB.2.1 o 1 ho (by decide) (by decide)
  have h2 := hB.2.1 p 1 hp (by decide) (by decide)
  have hc : mClk S o p < 2 ^ 30 := by unfold mClk; split <;> omega
  exact bS_upN (bS_upN hB (by omega) hc) (by omega) hc
theorem bS_Meet {S : Nat → Nat} (hB : bS S) {o p : Nat} (ho : o < 7) (hp : p < 7) : bS (mMeet S o p).1 := bS_Mt (bS_Meet0 hB ho hp) ho hp 12 (Nat.le_refl _)
theorem mMt_n (S : Nat → Nat) (o p : Nat) : ∀ t, (mMt S o p t).2 ≤ t
  | 0 => Nat.le_refl _
  | t + 1 => by
    have h := mMt_n S o p t
    have h2 : mP2n (mMt S o p t).1 o p t ≤ 1 := by
      unfold mP2n mPr
      split
      · omega
      · split <;> omega
    show (mMt S o p t).2 + mP2n (mMt S o p t).1 o p t ≤ t + 1
    omega
def mMeets1 (S : Nat → Nat) (v u : Int32) : (Nat → Nat) × Int32 := if hasN (S 0) v = true ∧ hasN (S 0) u = true ∧ v ≠ u then (if S (5 + 4 * ix v + 0) = 0 ∧ S (5 + 4 * ix u + 0) = 0 then ((mMeet S (ix v) (ix u)).1, nI (mMeet S (ix v) (ix u)).2) else (S, -1000002)) else (S, -1000001)
abbrev rm_X4_mayPass : Room := { frames := 2, cells := 0, slots := 0, locals := 44 }
set_option maxHeartbeats 4000000 in
set_option maxRecDepth 20000 in
theorem c_X4_mayPass {l : Launch} {g : Geo} {w : WD} {V : Nat → Nat → Nat} {S : Nat → Nat} {f p t : Nat} (hf : f < 7) (hp : p < 7) (ht : t < 12) (hB : bS S) : CtI l g yX4_mayPass cX4_mayPass 5 (some .boolean) rm_X4_mayPass [.ref (g_ad g 9 0), .int (nI f), .int (nI p), .int (nI t)] (mW w V S) (bI (mMay S f p t)) (mW w V S) := by
  refine ct_of mi_X4_mayPass.2.2.2.2.2 ⟨rfl, rfl⟩ (List.forall_mem_cons.mpr ⟨rfl, List.forall_mem_cons.mpr ⟨rfl, List.forall_mem_cons.mpr ⟨rfl, List.forall_mem_cons.mpr ⟨rfl, fun _ h => absurd h List.not_mem_nil⟩⟩⟩⟩) (Nat.le_of_ble_eq_true rfl) (fun P hX => ?_)
  replace hX : Gd l g RX4 cX4_mayPass rm_X4_mayPass 5 (some .boolean) _ _ P := hX
  show P (mW w V S) 0 [some (.ref (g_ad g 9 0)), some (.int (nI f)), some (.int (nI p)), some (.int (nI t)), none] []
  have h7 := hB.2.2.1
  refine pw_aload_n hX rfl dX4_mayPass_0 (q := 1) rfl ?_
  refine pw_iload_n hX rfl dX4_mayPass_1 (q := 2) rfl ?_
  refine pw_iload_n hX rfl dX4_mayPass_2 (q := 3) rfl ?_
  refine pw_iconst hX (k := 0) rfl (by decide) dX4_mayPass_3 (q := 4) rfl ?_
  refine pw_cvI3 hX dX4_mayPass_4 (q := 7) rfl mi_X4_en ml_X4_73 rcM ⟨rfl, rfl, by decide, by decide⟩ rfl (Nat.le_of_ble_eq_true rfl) (c_X4_en (by first | assumption | omega) (by first | assumption | omega) (by first | assumption | omega)) ?_
  refine pw_iconst hX (k := 2) rfl (by decide) dX4_mayPass_7 (q := 8) rfl ?_
  refine pw_icmpN_ne hX (by first | omega | exact bS0 hB | exact bSw hB (by omega) (by omega) (by omega) | exact bSe hB (by omega) (by omega) | exact bS1 hB | exact bS2 hB) (by first | omega | exact bS0 hB | exact bSw hB (by omega) (by omega) (by omega) | exact bSe hB (by omega) (by omega) | exact bS1 hB | exact bS2 hB) (tgt := 15) dX4_mayPass_8 (q := 11) rfl (by decide) (fun h_8 => ?_) (fun h_8 => ?_)
  · refine pw_aload_n hX rfl dX4_mayPass_15 (q := 16) rfl ?_
    refine pw_iload_n hX rfl dX4_mayPass_16 (q := 17) rfl ?_
    refine pw_iload_n hX rfl dX4_mayPass_17 (q := 18) rfl ?_
    refine pw_iconst hX (k := 4) rfl (by decide) dX4_mayPass_18 (q := 19) rfl ?_
    refine pw_cvI3 hX dX4_mayPass_19 (q := 22) rfl mi_X4_en ml_X4_73 rcM ⟨rfl, rfl, by decide, by decide⟩ rfl (Nat.le_of_ble_eq_true rfl) (c_X4_en (by first | assumption | omega) (by first | assumption | omega) (by first | assumption | omega)) ?_
    have hk : mKind S f t = S (225 + 84 * f + 7 * t + 4) := if_neg h_8
    refine pw_istore hX (by decide) dX4_mayPass_22 (q := 24) rfl ?_
    refine pw_iload hX rfl dX4_mayPass_24 (q := 26) rfl ?_
    refine pw_ifN_eq hX (by first | omega | exact bS0 hB | exact bSw hB (by omega) (by omega) (by omega) | exact bSe hB (by omega) (by omega) | exact bS1 hB | exact bS2 hB) (tgt := 51) dX4_mayPass_26 (q := 29) rfl (by decide) (fun h_26 => ?_) (fun h_26 => ?_)
    · refine pw_iconst hX (k := 1) rfl (by decide) dX4_mayPass_51 (q := 52) rfl ?_
      refine pw_goto hX (tgt := 56) dX4_mayPass_52 (by decide) ?_
      refine pw_ireturn hX dX4_mayPass_56 ⟨_, rfl, by first | exact bI_nar _ | decide | rfl⟩ ⟨congrArg (fun z => some (Value.int z)) ?_, ?_⟩
      · first | (rw [show mMay S f p t = true from decide_eq_true (by first | omega | simp_all)]; rfl) | (rw [show mMay S f p t = false from decide_eq_false (by first | omega | simp_all)]; rfl)
      · rfl
    · refine pw_aload_n hX rfl dX4_mayPass_29 (q := 30) rfl ?_
      refine pw_iload_n hX rfl dX4_mayPass_30 (q := 31) rfl ?_
      refine pw_iload_n hX rfl dX4_mayPass_31 (q := 32) rfl ?_
      refine pw_iconst hX (k := 2) rfl (by decide) dX4_mayPass_32 (q := 33) rfl ?_
      refine pw_cvI3 hX dX4_mayPass_33 (q := 36) rfl mi_X4_en ml_X4_73 rcM ⟨rfl, rfl, by decide, by decide⟩ rfl (Nat.le_of_ble_eq_true rfl) (c_X4_en (by first | assumption | omega) (by first | assumption | omega) (by first | assumption | omega)) ?_
      refine pw_iload_n hX rfl dX4_mayPass_36 (q := 37) rfl ?_
      refine pw_icmpN_ne hX (by first | omega | exact bS0 hB | exact bSw hB (by omega) (by omega) (by omega) | exact bSe hB (by omega) (by omega) | exact bS1 hB | exact bS2 hB) (by first | omega | exact bS0 hB | exact bSw hB (by omega) (by omega) (by omega) | exact bSe hB (by omega) (by omega) | exact bS1 hB | exact bS2 hB) (tgt := 55) dX4_mayPass_37 (q := 40) rfl (by decide) (fun h_37 => ?_) (fun h_37 => ?_)
      · refine pw_iconst hX (k := 0) rfl (by decide) dX4_mayPass_55 (q := 56) rfl ?_
        refine pw_ireturn hX dX4_mayPass_56 ⟨_, rfl, by first | exact bI_nar _ | decide | rfl⟩ ⟨congrArg (fun z => some (Value.int z)) ?_, ?_⟩
        · first | (rw [show mMay S f p t = true from decide_eq_true (by first | omega | simp_all)]; rfl) | (rw [show mMay S f p t = false from decide_eq_false (by first | omega | simp_all)]; rfl)
        · rfl
      · refine pw_iload hX rfl dX4_mayPass_40 (q := 42) rfl ?_
        refine pw_iconst hX (k := 1) rfl (by decide) dX4_mayPass_42 (q := 43) rfl ?_
        refine pw_icmpN_eq hX (by first | omega | exact bS0 hB | exact bSw hB (by omega) (by omega) (by omega) | exact bSe hB (by omega) (by omega) | exact bS1 hB | exact bS2 hB) (by first | omega | exact bS0 hB | exact bSw hB (by omega) (by omega) (by omega) | exact bSe hB (by omega) (by omega) | exact bS1 hB | exact bS2 hB) (tgt := 51) dX4_mayPass_43 (q := 46) rfl (by decide) (fun h_43 => ?_) (fun h_43 => ?_)
        · refine pw_iconst hX (k := 1) rfl (by decide) dX4_mayPass_51 (q := 52) rfl ?_
          refine pw_goto hX (tgt := 56) dX4_mayPass_52 (by decide) ?_
          refine pw_ireturn hX dX4_mayPass_56 ⟨_, rfl, by first | exact bI_nar _ | decide | rfl⟩ ⟨congrArg (fun z => some (Value.int z)) ?_, ?_⟩
          · first | (rw [show mMay S f p t = true from decide_eq_true (by first | omega | simp_all)]; rfl) | (rw [show mMay S f p t = false from decide_eq_false (by first | omega | simp_all)]; rfl)
          · rfl
        · refine pw_iload_n hX rfl dX4_mayPass_46 (q := 47) rfl ?_
          refine pw_iload_n hX rfl dX4_mayPass_47 (q := 48) rfl ?_
          refine pw_icmpN_le hX (by first | omega | exact bS0 hB | exact bSw hB (by omega) (by omega) (by omega) | exact bSe hB (by omega) (by omega) | exact bS1 hB | exact bS2 hB) (by first | omega | exact bS0 hB | exact bSw hB (by omega) (by omega) (by omega) | exact bSe hB (by omega) (by omega) | exact bS1 hB | exact bS2 hB) (tgt := 55) dX4_mayPass_48 (q := 51) rfl (by decide) (fun h_48 => ?_) (fun h_48 => ?_)
          · refine pw_iconst hX (k := 0) rfl (by decide) dX4_mayPass_55 (q := 56) rfl ?_
            refine pw_ireturn hX dX4_mayPass_56 ⟨_, rfl, by first | exact bI_nar _ | decide | rfl⟩ ⟨congrArg (fun z => some (Value.int z)) ?_, ?_⟩
            · first | (rw [show mMay S f p t = true from decide_eq_true (by first | omega | simp_all)]; rfl) | (rw [show mMay S f p t = false from decide_eq_false (by first | omega | simp_all)]; rfl)
            · rfl
          · refine pw_iconst hX (k := 1) rfl (by decide) dX4_mayPass_51 (q := 52) rfl ?_
            refine pw_goto hX (tgt := 56) dX4_mayPass_52 (by decide) ?_
            refine pw_ireturn hX dX4_mayPass_56 ⟨_, rfl, by first | exact bI_nar _ | decide | rfl⟩ ⟨congrArg (fun z => some (Value.int z)) ?_, ?_⟩
            · first | (rw [show mMay S f p t = true from decide_eq_true (by first | omega | simp_all)]; rfl) | (rw [show mMay S f p t = false from decide_eq_false (by first | omega | simp_all)]; rfl)
            · rfl
  · refine pw_iconst hX (k := 0) rfl (by decide) dX4_mayPass_11 (q := 12) rfl ?_
    refine pw_goto hX (tgt := 22) dX4_mayPass_12 (by decide) ?_
    have hk : mKind S f t = 0 := if_pos h_8
    refine pw_istore hX (by decide) dX4_mayPass_22 (q := 24) rfl ?_
    refine pw_iload hX rfl dX4_mayPass_24 (q := 26) rfl ?_
    refine pw_ifN_eq hX (by first | omega | exact bS0 hB | exact bSw hB (by omega) (by omega) (by omega) | exact bSe hB (by omega) (by omega) | exact bS1 hB | exact bS2 hB) (tgt := 51) dX4_mayPass_26 (q := 29) rfl (by decide) (fun h_26 => ?_) (fun h_26 => ?_)
    · refine pw_iconst hX (k := 1) rfl (by decide) dX4_mayPass_51 (q := 52) rfl ?_
      refine pw_goto hX (tgt := 56) dX4_mayPass_52 (by decide) ?_
      refine pw_ireturn hX dX4_mayPass_56 ⟨_, rfl, by first | exact bI_nar _ | decide | rfl⟩ ⟨congrArg (fun z => some (Value.int z)) ?_, ?_⟩
      · first | (rw [show mMay S f p t = true from decide_eq_true (by first | omega | simp_all)]; rfl) | (rw [show mMay S f p t = false from decide_eq_false (by first | omega | simp_all)]; rfl)
      · rfl
    · refine pw_aload_n hX rfl dX4_mayPass_29 (q := 30) rfl ?_
      refine pw_iload_n hX rfl dX4_mayPass_30 (q := 31) rfl ?_
      refine pw_iload_n hX rfl dX4_mayPass_31 (q := 32) rfl ?_
      refine pw_iconst hX (k := 2) rfl (by decide) dX4_mayPass_32 (q := 33) rfl ?_
      refine pw_cvI3 hX dX4_mayPass_33 (q := 36) rfl mi_X4_en ml_X4_73 rcM ⟨rfl, rfl, by decide, by decide⟩ rfl (Nat.le_of_ble_eq_true rfl) (c_X4_en (by first | assumption | omega) (by first | assumption | omega) (by first | assumption | omega)) ?_
      refine pw_iload_n hX rfl dX4_mayPass_36 (q := 37) rfl ?_
      refine pw_icmpN_ne hX (by first | omega | exact bS0 hB | exact bSw hB (by omega) (by omega) (by omega) | exact bSe hB (by omega) (by omega) | exact bS1 hB | exact bS2 hB) (by first | omega | exact bS0 hB | exact bSw hB (by omega) (by omega) (by omega) | exact bSe hB (by omega) (by omega) | exact bS1 hB | exact bS2 hB) (tgt := 55) dX4_mayPass_37 (q := 40) rfl (by decide) (fun h_37 => ?_) (fun h_37 => ?_)
      · refine pw_iconst hX (k := 0) rfl (by decide) dX4_mayPass_55 (q := 56) rfl ?_
        refine pw_ireturn hX dX4_mayPass_56 ⟨_, rfl, by first | exact bI_nar _ | decide | rfl⟩ ⟨congrArg (fun z => some (Value.int z)) ?_, ?_⟩
        · first | (rw [show mMay S f p t = true from decide_eq_true (by first | omega | simp_all)]; rfl) | (rw [show mMay S f p t = false from decide_eq_false (by first | omega | simp_all)]; rfl)
        · rfl
      · refine pw_iload hX rfl dX4_mayPass_40 (q := 42) rfl ?_
        refine pw_iconst hX (k := 1) rfl (by decide) dX4_mayPass_42 (q := 43) rfl ?_
        refine pw_icmpN_eq hX (by first | omega | exact bS0 hB | exact bSw hB (by omega) (by omega) (by omega) | exact bSe hB (by omega) (by omega) | exact bS1 hB | exact bS2 hB) (by first | omega | exact bS0 hB | exact bSw hB (by omega) (by omega) (by omega) | exact bSe hB (by omega) (by omega) | exact bS1 hB | exact bS2 hB) (tgt := 51) dX4_mayPass_43 (q := 46) rfl (by decide) (fun h_43 => ?_) (fun h_43 => ?_)
        · refine pw_iconst hX (k := 1) rfl (by decide) dX4_mayPass_51 (q := 52) rfl ?_
          refine pw_goto hX (tgt := 56) dX4_mayPass_52 (by decide) ?_
          refine pw_ireturn hX dX4_mayPass_56 ⟨_, rfl, by first | exact bI_nar _ | decide | rfl⟩ ⟨congrArg (fun z => some (Value.int z)) ?_, ?_⟩
          · first | (rw [show mMay S f p t = true from decide_eq_true (by first | omega | simp_all)]; rfl) | (rw [show mMay S f p t = false from decide_eq_false (by first | omega | simp_all)]; rfl)
          · rfl
        · refine pw_iload_n hX rfl dX4_mayPass_46 (q := 47) rfl ?_
          refine pw_iload_n hX rfl dX4_mayPass_47 (q := 48) rfl ?_
          refine pw_icmpN_le hX (by first | omega | exact bS0 hB | exact bSw hB (by omega) (by omega) (by omega) | exact bSe hB (by omega) (by omega) | exact bS1 hB | exact bS2 hB) (by first | omega | exact bS0 hB | exact bSw hB (by omega) (by omega) (by omega) | exact bSe hB (by omega) (by omega) | exact bS1 hB | exact bS2 hB) (tgt := 55) dX4_mayPass_48 (q := 51) rfl (by decide) (fun h_48 => ?_) (fun h_48 => ?_)
          · refine pw_iconst hX (k := 0) rfl (by decide) dX4_mayPass_55 (q := 56) rfl ?_
            refine pw_ireturn hX dX4_mayPass_56 ⟨_, rfl, by first | exact bI_nar _ | decide | rfl⟩ ⟨congrArg (fun z => some (Value.int z)) ?_, ?_⟩
            · first | (rw [show mMay S f p t = true from decide_eq_true (by first | omega | simp_all)]; rfl) | (rw [show mMay S f p t = false from decide_eq_false (by first | omega | simp_all)]; rfl)
            · rfl
          · refine pw_iconst hX (k := 1) rfl (by decide) dX4_mayPass_51 (q := 52) rfl ?_
            refine pw_goto hX (tgt := 56) dX4_mayPass_52 (by decide) ?_
            refine pw_ireturn hX dX4_mayPass_56 ⟨_, rfl, by first | exact bI_nar _ | decide | rfl⟩ ⟨congrArg (fun z => some (Value.int z)) ?_, ?_⟩
            · first | (rw [show mMay S f p t = true from decide_eq_true (by first | omega | simp_all)]; rfl) | (rw [show mMay S f p t = false from decide_eq_false (by first | omega | simp_all)]; rfl)
            · rfl
abbrev rm_X4_isGhost : Room := { frames := 2, cells := 0, slots := 0, locals := 44 }
set_option maxHeartbeats 4000000 in
set_option maxRecDepth 20000 in
theorem c_X4_isGhost {l : Launch} {g : Geo} {w : WD} {V : Nat → Nat → Nat} {S : Nat → Nat} {f p t : Nat} (hf : f < 7) (hp : p < 7) (ht : t < 12) (hB : bS S) : CtI l g yX4_isGhost cX4_isGhost 5 (some .boolean) rm_X4_isGhost [.ref (g_ad g 9 0), .int (nI f), .int (nI p), .int (nI t)] (mW w V S) (bI (mGho S f p t)) (mW w V S) := by
  refine ct_of mi_X4_isGhost.2.2.2.2.2 ⟨rfl, rfl⟩ (List.forall_mem_cons.mpr ⟨rfl, List.forall_mem_cons.mpr ⟨rfl, List.forall_mem_cons.mpr ⟨rfl, List.forall_mem_cons.mpr ⟨rfl, fun _ h => absurd h List.not_mem_nil⟩⟩⟩⟩) (Nat.le_of_ble_eq_true rfl) (fun P hX => ?_)
  replace hX : Gd l g RX4 cX4_isGhost rm_X4_isGhost 5 (some .boolean) _ _ P := hX
  show P (mW w V S) 0 [some (.ref (g_ad g 9 0)), some (.int (nI f)), some (.int (nI p)), some (.int (nI t)), none] []
  have h7 := hB.2.2.1
  refine pw_bipush hX (k := 57) (by decide) dX4_isGhost_0 (q := 2) rfl ?_
  refine pw_bipush hX (k := 24) (by decide) dX4_isGhost_2 (q := 4) rfl ?_
  refine pw_iload_n hX rfl dX4_isGhost_4 (q := 5) rfl ?_
  refine pw_imulN hX dX4_isGhost_5 (q := 6) rfl ?_
  refine pw_iaddN hX dX4_isGhost_6 (q := 7) rfl ?_
  refine pw_iconst hX (k := 2) rfl (by decide) dX4_isGhost_7 (q := 8) rfl ?_
  refine pw_iload_n hX rfl dX4_isGhost_8 (q := 9) rfl ?_
  refine pw_imulN hX dX4_isGhost_9 (q := 10) rfl ?_
  refine pw_iaddN hX dX4_isGhost_10 (q := 11) rfl ?_
  refine pw_istore hX (by decide) dX4_isGhost_11 (q := 13) rfl ?_
  refine pw_aload_n hX rfl dX4_isGhost_13 (q := 14) rfl ?_
  refine pw_iload_n hX rfl dX4_isGhost_14 (q := 15) rfl ?_
  refine pw_iload_n hX rfl dX4_isGhost_15 (q := 16) rfl ?_
  refine pw_iconst hX (k := 0) rfl (by decide) dX4_isGhost_16 (q := 17) rfl ?_
  refine pw_cvI3 hX dX4_isGhost_17 (q := 20) rfl mi_X4_en ml_X4_73 rcM ⟨rfl, rfl, by decide, by decide⟩ rfl (Nat.le_of_ble_eq_true rfl) (c_X4_en (by first | assumption | omega) (by first | assumption | omega) (by first | assumption | omega)) ?_
  refine pw_iconst hX (k := 1) rfl (by decide) dX4_isGhost_20 (q := 21) rfl ?_
  refine pw_icmpN_ne hX (by first | omega | exact bS0 hB | exact bSw hB (by omega) (by omega) (by omega) | exact bSe hB (by omega) (by omega) | exact bS1 hB | exact bS2 hB) (by first | omega | exact bS0 hB | exact bSw hB (by omega) (by omega) (by omega) | exact bSe hB (by omega) (by omega) | exact bS1 hB | exact bS2 hB) (tgt := 64) dX4_isGhost_21 (q := 24) rfl (by decide) (fun h_21 => ?_) (fun h_21 => ?_)
  · refine pw_iconst hX (k := 0) rfl (by decide) dX4_isGhost_64 (q := 65) rfl ?_
    refine pw_ireturn hX dX4_isGhost_65 ⟨_, rfl, by first | exact bI_nar _ | decide | rfl⟩ ⟨congrArg (fun z => some (Value.int z)) ?_, ?_⟩
    · first | (rw [show mGho S f p t = false from decide_eq_false (fun z => h_21 z.1)]; rfl) | (rw [show mGho S f p t = true from decide_eq_true ⟨h_21, h_57⟩]; rfl) | (rw [show mGho S f p t = false from decide_eq_false (fun z => by simp [h_57] at z)]; rfl)
    · rfl
  · refine pw_aload_n hX rfl dX4_isGhost_24 (q := 25) rfl ?_
    refine pw_getMS hX 0 (by decide) fl_X4_7 rfl dX4_isGhost_25 (q := 28) rfl ?_
    refine pw_iload hX rfl dX4_isGhost_28 (q := 30) rfl ?_
    refine pw_ialdS hX (by omega) dX4_isGhost_30 (q := 31) rfl ?_
    refine pw_aload_n hX rfl dX4_isGhost_31 (q := 32) rfl ?_
    refine pw_getMS hX 0 (by decide) fl_X4_7 rfl dX4_isGhost_32 (q := 35) rfl ?_
    refine pw_iload hX rfl dX4_isGhost_35 (q := 37) rfl ?_
    refine pw_iconst hX (k := 1) rfl (by decide) dX4_isGhost_37 (q := 38) rfl ?_
    refine pw_iaddN hX dX4_isGhost_38 (q := 39) rfl ?_
    refine pw_ialdS hX (by omega) dX4_isGhost_39 (q := 40) rfl ?_
    refine pw_aload_n hX rfl dX4_isGhost_40 (q := 41) rfl ?_
    refine pw_iload_n hX rfl dX4_isGhost_41 (q := 42) rfl ?_
    refine pw_iload_n hX rfl dX4_isGhost_42 (q := 43) rfl ?_
    refine pw_iconst hX (k := 1) rfl (by decide) dX4_isGhost_43 (q := 44) rfl ?_
    refine pw_cvI3 hX dX4_isGhost_44 (q := 47) rfl mi_X4_en ml_X4_73 rcM ⟨rfl, rfl, by decide, by decide⟩ rfl (Nat.le_of_ble_eq_true rfl) (c_X4_en (by first | assumption | omega) (by first | assumption | omega) (by first | assumption | omega)) ?_
    refine pw_aload_n hX rfl dX4_isGhost_47 (q := 48) rfl ?_
    refine pw_iload_n hX rfl dX4_isGhost_48 (q := 49) rfl ?_
    refine pw_iload_n hX rfl dX4_isGhost_49 (q := 50) rfl ?_
    refine pw_iconst hX (k := 2) rfl (by decide) dX4_isGhost_50 (q := 51) rfl ?_
    refine pw_cvI3 hX dX4_isGhost_51 (q := 54) rfl mi_X4_en ml_X4_73 rcM ⟨rfl, rfl, by decide, by decide⟩ rfl (Nat.le_of_ble_eq_true rfl) (c_X4_en (by first | assumption | omega) (by first | assumption | omega) (by first | assumption | omega)) ?_
    refine pw_csI4 hX dX4_isGhost_54 (q := 57) rfl mi_X4_isNewer ml_X4_81 ⟨rfl, rfl, by decide, by decide⟩ rfl (Nat.le_of_ble_eq_true rfl) (c_X4_isNewer (bSe hB (by omega) (by omega)) (bSe hB (by omega) (by omega)) (bSe hB (by omega) (by omega)) (bSe hB (by omega) (by omega))) ?_
    refine pw_ifB_eq hX (tgt := 64) dX4_isGhost_57 (q := 60) rfl (by decide) (fun h_57 => ?_) (fun h_57 => ?_)
    · refine pw_iconst hX (k := 0) rfl (by decide) dX4_isGhost_64 (q := 65) rfl ?_
      refine pw_ireturn hX dX4_isGhost_65 ⟨_, rfl, by first | exact bI_nar _ | decide | rfl⟩ ⟨congrArg (fun z => some (Value.int z)) ?_, ?_⟩
      · first | (rw [show mGho S f p t = false from decide_eq_false (fun z => h_21 z.1)]; rfl) | (rw [show mGho S f p t = true from decide_eq_true ⟨h_21, h_57⟩]; rfl) | (rw [show mGho S f p t = false from decide_eq_false (fun z => by simp [h_57] at z)]; rfl)
      · rfl
    · refine pw_iconst hX (k := 1) rfl (by decide) dX4_isGhost_60 (q := 61) rfl ?_
      refine pw_goto hX (tgt := 65) dX4_isGhost_61 (by decide) ?_
      refine pw_ireturn hX dX4_isGhost_65 ⟨_, rfl, by first | exact bI_nar _ | decide | rfl⟩ ⟨congrArg (fun z => some (Value.int z)) ?_, ?_⟩
      · first | (rw [show mGho S f p t = false from decide_eq_false (fun z => h_21 z.1)]; rfl) | (rw [show mGho S f p t = true from decide_eq_true ⟨h_21, h_57⟩]; rfl) | (rw [show mGho S f p t = false from decide_eq_false (fun z => by simp [h_57] at z)]; rfl)
      · rfl
abbrev rm_X4_passes : Room := { frames := 3, cells := 0, slots := 0, locals := 68 }
set_option maxHeartbeats 4000000 in
set_option maxRecDepth 20000 in
theorem c_X4_passes {l : Launch} {g : Geo} {w : WD} {V : Nat → Nat → Nat} {S : Nat → Nat} {f p t : Nat} (hf : f < 7) (hp : p < 7) (ht : t < 12) (hB : bS S) : CtI l g yX4_passes cX4_passes 5 (some .int) rm_X4_passes [.ref (g_ad g 9 0), .int (nI f), .int (nI p), .int (nI t)] (mW w V S) (nI (mPr S f p t)) (mW w V (mPs S f p t)) := by
  refine ct_of mi_X4_passes.2.2.2.2.2 ⟨rfl, rfl⟩ (List.forall_mem_cons.mpr ⟨rfl, List.forall_mem_cons.mpr ⟨rfl, List.forall_mem_cons.mpr ⟨rfl, List.forall_mem_cons.mpr ⟨rfl, fun _ h => absurd h List.not_mem_nil⟩⟩⟩⟩) (Nat.le_of_ble_eq_true rfl) (fun P hX => ?_)
  replace hX : Gd l g RX4 cX4_passes rm_X4_passes 5 (some .int) _ _ P := hX
  show P (mW w V S) 0 [some (.ref (g_ad g 9 0)), some (.int (nI f)), some (.int (nI p)), some (.int (nI t)), none] []
  have h7 := hB.2.2.1
  refine pw_aload_n hX rfl dX4_passes_0 (q := 1) rfl ?_
  refine pw_iload_n hX rfl dX4_passes_1 (q := 2) rfl ?_
  refine pw_iload_n hX rfl dX4_passes_2 (q := 3) rfl ?_
  refine pw_iload_n hX rfl dX4_passes_3 (q := 4) rfl ?_
  refine pw_cvI3 hX dX4_passes_4 (q := 7) rfl mi_X4_hasNewer ml_X4_85 rcM ⟨rfl, rfl, by decide, by decide⟩ rfl (Nat.le_of_ble_eq_true rfl) (c_X4_hasNewer (by first | assumption | omega) (by first | assumption | omega) (by first | assumption | omega) (by first | assumption | omega)) ?_
  refine pw_ifB_eq hX (tgt := 20) dX4_passes_7 (q := 10) rfl (by decide) (fun h_7 => ?_) (fun h_7 => ?_)
  · refine pw_iconst hX (k := 0) rfl (by decide) dX4_passes_20 (q := 21) rfl ?_
    refine pw_ireturn hX dX4_passes_21 ⟨_, rfl, rfl⟩ ⟨congrArg (fun z => some (Value.int z)) ?_, ?_⟩
    · unfold mPr mPb; first | (rw [h_7]; rfl) | (rw [h_7, h_17]; rfl)
    · unfold mPs mPb; first | (rw [h_7]; rfl) | (rw [h_7, h_17]; rfl)
  · refine pw_aload_n hX rfl dX4_passes_10 (q := 11) rfl ?_
    refine pw_iload_n hX rfl dX4_passes_11 (q := 12) rfl ?_
    refine pw_iload_n hX rfl dX4_passes_12 (q := 13) rfl ?_
    refine pw_iload_n hX rfl dX4_passes_13 (q := 14) rfl ?_
    refine pw_cvI3 hX dX4_passes_14 (q := 17) rfl mi_X4_mayPass ml_X4_102 rcM ⟨rfl, rfl, by decide, by decide⟩ rfl (Nat.le_of_ble_eq_true rfl) (c_X4_mayPass (by first | assumption | omega) (by first | assumption | omega) (by first | assumption | omega) (by first | assumption | omega)) ?_
    refine pw_ifB_ne hX (tgt := 22) dX4_passes_17 (q := 20) rfl (by decide) (fun h_17 => ?_) (fun h_17 => ?_)
    · refine pw_aload_n hX rfl dX4_passes_22 (q := 23) rfl ?_
      refine pw_iload_n hX rfl dX4_passes_23 (q := 24) rfl ?_
      refine pw_iload_n hX rfl dX4_passes_24 (q := 25) rfl ?_
      refine pw_iload_n hX rfl dX4_passes_25 (q := 26) rfl ?_
      refine pw_cvI3 hX dX4_passes_26 (q := 29) rfl mi_X4_isGhost ml_X4_105 rcM ⟨rfl, rfl, by decide, by decide⟩ rfl (Nat.le_of_ble_eq_true rfl) (c_X4_isGhost (by first | assumption | omega) (by first | assumption | omega) (by first | assumption | omega) (by first | assumption | omega)) ?_
      refine jn (A := ∀ S1 : Nat → Nat, S1 = (if mGho S f p t = true then mGh S p else S) → P (mW w V S1) 58 [some (.ref (g_ad g 9 0)), some (.int (nI f)), some (.int (nI p)), some (.int (nI t)), none] []) ?_ (fun J29 => ?_)
      · intro S1 hS1
        refine pw_iconst hX (k := 0) rfl (by decide) dX4_passes_58 (q := 59) rfl ?_
        refine pw_istore hX (by decide) dX4_passes_59 (q := 61) rfl ?_
        suffices L : ∀ i, i ≤ 7 → P (mW w V (cpE S1 f p t i)) 61 [some (.ref (g_ad g 9 0)), some (.int (nI f)), some (.int (nI p)), some (.int (nI t)), some (.int (nI i))] [] by have h9 := L 0 (Nat.zero_le _); rw [cpE_0] at h9; exact h9
        refine loopUp (fun i hi ih => ?_)
        refine pw_iload hX rfl dX4_passes_61 (q := 63) rfl ?_
        refine pw_bipush hX (k := 7) (by decide) dX4_passes_63 (q := 65) rfl ?_
        refine pw_icmpN_ge hX (by first | omega | exact bS0 hB | exact bSw hB (by omega) (by omega) (by omega) | exact bSe hB (by omega) (by omega) | exact bS1 hB | exact bS2 hB) (by first | omega | exact bS0 hB | exact bSw hB (by omega) (by omega) (by omega) | exact bSe hB (by omega) (by omega) | exact bS1 hB | exact bS2 hB) (tgt := 95) dX4_passes_65 (q := 68) rfl (by decide) (fun h_65 => ?_) (fun h_65 => ?_)
        · refine pw_iconst hX (k := 1) rfl (by decide) dX4_passes_95 (q := 96) rfl ?_
          refine pw_ireturn hX dX4_passes_96 ⟨_, rfl, rfl⟩ ⟨congrArg (fun z => some (Value.int z)) ?_, ?_⟩
          · unfold mPr mPb; rw [h_7, h_17]; rfl
          · rw [show i = 7 by omega, hS1]; unfold mPs mPb; rw [h_7, h_17]; rfl
        · refine pw_aload_n hX rfl dX4_passes_68 (q := 69) rfl ?_
          refine pw_getMS hX 0 (by decide) fl_X4_7 rfl dX4_passes_69 (q := 72) rfl ?_
          refine pw_iload_n hX rfl dX4_passes_72 (q := 73) rfl ?_
          refine pw_iload_n hX rfl dX4_passes_73 (q := 74) rfl ?_
          refine pw_csI2 hX dX4_passes_74 (q := 77) rfl mi_X4_place ml_X4_29 ⟨rfl, rfl, by decide, by decide⟩ rfl (Nat.le_of_ble_eq_true rfl) (c_X4_place) ?_
          refine pw_iload hX rfl dX4_passes_77 (q := 79) rfl ?_
          refine pw_iaddN hX dX4_passes_79 (q := 80) rfl ?_
          refine pw_aload_n hX rfl dX4_passes_80 (q := 81) rfl ?_
          refine pw_iload_n hX rfl dX4_passes_81 (q := 82) rfl ?_
          refine pw_iload_n hX rfl dX4_passes_82 (q := 83) rfl ?_
          refine pw_iload hX rfl dX4_passes_83 (q := 85) rfl ?_
          refine pw_cvI3 hX dX4_passes_85 (q := 88) rfl mi_X4_en ml_X4_73 rcM ⟨rfl, rfl, by decide, by decide⟩ rfl (Nat.le_of_ble_eq_true rfl) (c_X4_en (by first | assumption | omega) (by first | assumption | omega) (by first | assumption | omega)) ?_
          refine pw_iastS hX (by omega) dX4_passes_88 (q := 89) rfl ?_
          refine pw_iinc hX rfl (by decide) (inc1 _) dX4_passes_89 (q := 92) rfl ?_
          refine pw_goto hX (tgt := 61) dX4_passes_92 (by decide) ?_
          exact pw_eq (by rw [cpE_s _ (by omega)]) rfl rfl (ih (by omega))
      · refine pw_ifB_eq hX (tgt := 58) dX4_passes_29 (q := 32) rfl (by decide) (fun h_29 => ?_) (fun h_29 => ?_)
        · exact J29 _ (by first | (rw [if_neg (by simp [h_29])]; done) | (rw [if_pos h_29]; rfl))
        · refine pw_aload_n hX rfl dX4_passes_32 (q := 33) rfl ?_
          refine pw_getMS hX 0 (by decide) fl_X4_7 rfl dX4_passes_33 (q := 36) rfl ?_
          refine pw_iconst hX (k := 5) rfl (by decide) dX4_passes_36 (q := 37) rfl ?_
          refine pw_iconst hX (k := 4) rfl (by decide) dX4_passes_37 (q := 38) rfl ?_
          refine pw_iload_n hX rfl dX4_passes_38 (q := 39) rfl ?_
          refine pw_imulN hX dX4_passes_39 (q := 40) rfl ?_
          refine pw_iaddN hX dX4_passes_40 (q := 41) rfl ?_
          refine pw_iconst hX (k := 2) rfl (by decide) dX4_passes_41 (q := 42) rfl ?_
          refine pw_iaddN hX dX4_passes_42 (q := 43) rfl ?_
          refine pw_dup2 hX rfl rfl dX4_passes_43 (q := 44) rfl ?_
          refine pw_ialdS hX (by omega) dX4_passes_44 (q := 45) rfl ?_
          refine pw_iconst hX (k := 1) rfl (by decide) dX4_passes_45 (q := 46) rfl ?_
          refine pw_iaddN hX dX4_passes_46 (q := 47) rfl ?_
          refine pw_iastS hX (by omega) dX4_passes_47 (q := 48) rfl ?_
          refine pw_aload_n hX rfl dX4_passes_48 (q := 49) rfl ?_
          refine pw_getMS hX 0 (by decide) fl_X4_7 rfl dX4_passes_49 (q := 52) rfl ?_
          refine pw_iconst hX (k := 3) rfl (by decide) dX4_passes_52 (q := 53) rfl ?_
          refine pw_dup2 hX rfl rfl dX4_passes_53 (q := 54) rfl ?_
          refine pw_ialdS hX (by omega) dX4_passes_54 (q := 55) rfl ?_
          refine pw_iconst hX (k := 1) rfl (by decide) dX4_passes_55 (q := 56) rfl ?_
          refine pw_iaddN hX dX4_passes_56 (q := 57) rfl ?_
          refine pw_iastS hX (by omega) dX4_passes_57 (q := 58) rfl ?_
          exact J29 _ (by first | (rw [if_neg (by simp [h_29])]; done) | (rw [if_pos h_29]; rfl))
    · refine pw_iconst hX (k := 0) rfl (by decide) dX4_passes_20 (q := 21) rfl ?_
      refine pw_ireturn hX dX4_passes_21 ⟨_, rfl, rfl⟩ ⟨congrArg (fun z => some (Value.int z)) ?_, ?_⟩
      · unfold mPr mPb; first | (rw [h_7]; rfl) | (rw [h_7, h_17]; rfl)
      · unfold mPs mPb; first | (rw [h_7]; rfl) | (rw [h_7, h_17]; rfl)
abbrev rm_X4_meets : Room := { frames := 4, cells := 0, slots := 0, locals := 92 }
set_option maxHeartbeats 4000000 in
set_option maxRecDepth 20000 in
theorem c_X4_meets {l : Launch} {g : Geo} {w : WD} {V : Nat → Nat → Nat} {S : Nat → Nat} {o p : Nat} (ho : o < 7) (hp : p < 7) (hB : bS S) : CtI l g yX4_meets cX4_meets 8 (some .int) rm_X4_meets [.ref (g_ad g 9 0), .int (nI o), .int (nI p)] (mW w V S) (nI (mMeet S o p).2) (mW w V (mMeet S o p).1) := by
  refine ct_of mi_X4_meets.2.2.2.2.2 ⟨rfl, rfl⟩ (List.forall_mem_cons.mpr ⟨rfl, List.forall_mem_cons.mpr ⟨rfl, List.forall_mem_cons.mpr ⟨rfl, fun _ h => absurd h List.not_mem_nil⟩⟩⟩) (Nat.le_of_ble_eq_true rfl) (fun P hX => ?_)
  replace hX : Gd l g RX4 cX4_meets rm_X4_meets 8 (some .int) _ _ P := hX
  show P (mW w V S) 0 [some (.ref (g_ad g 9 0)), some (.int (nI o)), some (.int (nI p)), none, none, none, none, none] []
  have h7 := hB.2.2.1
  refine pw_aload_n hX rfl dX4_meets_0 (q := 1) rfl ?_
  refine pw_iload_n hX rfl dX4_meets_1 (q := 2) rfl ?_
  refine pw_iconst hX (k := 1) rfl (by decide) dX4_meets_2 (q := 3) rfl ?_
  refine pw_cvI2 hX dX4_meets_3 (q := 6) rfl mi_X4_vi ml_X4_37 rcM ⟨rfl, rfl, by decide, by decide⟩ rfl (Nat.le_of_ble_eq_true rfl) (c_X4_vi (by first | assumption | omega) (by first | assumption | omega)) ?_
  refine pw_aload_n hX rfl dX4_meets_6 (q := 7) rfl ?_
  refine pw_iload_n hX rfl dX4_meets_7 (q := 8) rfl ?_
  refine pw_iconst hX (k := 1) rfl (by decide) dX4_meets_8 (q := 9) rfl ?_
  refine pw_cvI2 hX dX4_meets_9 (q := 12) rfl mi_X4_vi ml_X4_37 rcM ⟨rfl, rfl, by decide, by decide⟩ rfl (Nat.le_of_ble_eq_true rfl) (c_X4_vi (by first | assumption | omega) (by first | assumption | omega)) ?_
  refine jn (A := ∀ x : Nat, x = mClk S o p → P (mW w V S) 30 [some (.ref (g_ad g 9 0)), some (.int (nI o)), some (.int (nI p)), none, none, none, none, none] [.int (nI x)]) ?_ (fun J12 => ?_)
  · intro x hx
    refine pw_istore_n hX (by decide) dX4_meets_30 (q := 31) rfl ?_
    subst hx
    refine pw_aload_n hX rfl dX4_meets_31 (q := 32) rfl ?_
    refine pw_getMS hX 0 (by decide) fl_X4_7 rfl dX4_meets_32 (q := 35) rfl ?_
    refine pw_iconst hX (k := 5) rfl (by decide) dX4_meets_35 (q := 36) rfl ?_
    refine pw_iconst hX (k := 4) rfl (by decide) dX4_meets_36 (q := 37) rfl ?_
    refine pw_iload_n hX rfl dX4_meets_37 (q := 38) rfl ?_
    refine pw_imulN hX dX4_meets_38 (q := 39) rfl ?_
    refine pw_iaddN hX dX4_meets_39 (q := 40) rfl ?_
    refine pw_iconst hX (k := 1) rfl (by decide) dX4_meets_40 (q := 41) rfl ?_
    refine pw_iaddN hX dX4_meets_41 (q := 42) rfl ?_
    refine pw_iload_n hX rfl dX4_meets_42 (q := 43) rfl ?_
    refine pw_iastS hX (by omega) dX4_meets_43 (q := 44) rfl ?_
    refine pw_aload_n hX rfl dX4_meets_44 (q := 45) rfl ?_
    refine pw_getMS hX 0 (by decide) fl_X4_7 rfl dX4_meets_45 (q := 48) rfl ?_
    refine pw_iconst hX (k := 5) rfl (by decide) dX4_meets_48 (q := 49) rfl ?_
    refine pw_iconst hX (k := 4) rfl (by decide) dX4_meets_49 (q := 50) rfl ?_
    refine pw_iload_n hX rfl dX4_meets_50 (q := 51) rfl ?_
    refine pw_imulN hX dX4_meets_51 (q := 52) rfl ?_
    refine pw_iaddN hX dX4_meets_52 (q := 53) rfl ?_
    refine pw_iconst hX (k := 1) rfl (by decide) dX4_meets_53 (q := 54) rfl ?_
    refine pw_iaddN hX dX4_meets_54 (q := 55) rfl ?_
    refine pw_iload_n hX rfl dX4_meets_55 (q := 56) rfl ?_
    refine pw_iastS hX (by omega) dX4_meets_56 (q := 57) rfl ?_
    refine pw_iconst hX (k := 0) rfl (by decide) dX4_meets_57 (q := 58) rfl ?_
    refine pw_istore hX (by decide) dX4_meets_58 (q := 60) rfl ?_
    refine pw_iconst hX (k := 0) rfl (by decide) dX4_meets_60 (q := 61) rfl ?_
    refine pw_istore hX (by decide) dX4_meets_61 (q := 63) rfl ?_
    suffices L : ∀ t, t ≤ 12 → P (mW w V (mMt (mMeet0 S o p) o p t).1) 63 [some (.ref (g_ad g 9 0)), some (.int (nI o)), some (.int (nI p)), some (.int (nI (mClk S o p))), some (.int (nI (mMt (mMeet0 S o p) o p t).2)), some (.int (nI t)), none, none] [] by exact pw_fg hX (by repeat first | exact lle_nil | refine lle_cons ?_ | refine lle_none ?_) (L 0 (Nat.zero_le _))
    refine loopUp (fun t ht ih => ?_)
    have hBt : bS (mMt (mMeet0 S o p) o p t).1 := bS_Mt (bS_Meet0 hB ho hp) ho hp t ht
    refine pw_iload hX rfl dX4_meets_63 (q := 65) rfl ?_
    refine pw_bipush hX (k := 12) (by decide) dX4_meets_65 (q := 67) rfl ?_
    refine pw_icmpN_ge hX (by first | omega | exact bSw hB (by omega) (by omega) (by omega) | exact bSe hBt (by omega) (by omega) | exact bSe hB1 (by omega) (by omega) | (unfold mPr; split <;> omega)) (by first | omega | exact bSw hB (by omega) (by omega) (by omega) | exact bSe hBt (by omega) (by omega) | exact bSe hB1 (by omega) (by omega) | (unfold mPr; split <;> omega)) (tgt := 204) dX4_meets_67 (q := 70) rfl (by decide) (fun h_67 => ?_) (fun h_67 => ?_)
    · refine pw_iload hX rfl dX4_meets_204 (q := 206) rfl ?_
      refine pw_ireturn hX dX4_meets_206 ⟨_, rfl, rfl⟩ ⟨congrArg (fun z => some (Value.int z)) ?_, ?_⟩
      · rw [show t = 12 by omega]; rfl
      · rw [show t = 12 by omega]; rfl
    · refine pw_aload_n hX rfl dX4_meets_70 (q := 71) rfl ?_
      refine pw_iload_n hX rfl dX4_meets_71 (q := 72) rfl ?_
      refine pw_iload_n hX rfl dX4_meets_72 (q := 73) rfl ?_
      refine pw_iload hX rfl dX4_meets_73 (q := 75) rfl ?_
      refine pw_cvI3 hX dX4_meets_75 (q := 78) rfl mi_X4_passes ml_X4_108 rcM ⟨rfl, rfl, by decide, by decide⟩ rfl (Nat.le_of_ble_eq_true rfl) (c_X4_passes ho hp (by omega) hBt) ?_
      refine pw_istore hX (by decide) dX4_meets_78 (q := 80) rfl ?_
      refine pw_iload hX rfl dX4_meets_80 (q := 82) rfl ?_
      refine pw_iload hX rfl dX4_meets_82 (q := 84) rfl ?_
      refine jn (A := ∀ (S1 : Nat → Nat) (x : Nat), S1 = mP2s (mMt (mMeet0 S o p) o p t).1 o p t → x = mP2n (mMt (mMeet0 S o p) o p t).1 o p t → P (mW w V S1) 99 [some (.ref (g_ad g 9 0)), some (.int (nI o)), some (.int (nI p)), some (.int (nI (mClk S o p))), some (.int (nI (mMt (mMeet0 S o p) o p t).2)), some (.int (nI t)), none, none] [.int (nI x), .int (nI (mMt (mMeet0 S o p) o p t).2)]) ?_ (fun J84 => ?_)
      · intro S1 x hS1 hx1
        have hB1 : bS S1 := by rw [hS1]; exact bS_P2 hBt ho hp (by omega)
        refine pw_iaddN hX dX4_meets_99 (q := 100) rfl ?_
        refine pw_istore hX (by decide) dX4_meets_100 (q := 102) rfl ?_
        refine pw_aload_n hX rfl dX4_meets_102 (q := 103) rfl ?_
        refine pw_iload_n hX rfl dX4_meets_103 (q := 104) rfl ?_
        refine pw_iload hX rfl dX4_meets_104 (q := 106) rfl ?_
        refine pw_iconst hX (k := 0) rfl (by decide) dX4_meets_106 (q := 107) rfl ?_
        refine pw_cvI3 hX dX4_meets_107 (q := 110) rfl mi_X4_en ml_X4_73 rcM ⟨rfl, rfl, by decide, by decide⟩ rfl (Nat.le_of_ble_eq_true rfl) (c_X4_en (by first | assumption | omega) (by first | assumption | omega) (by first | assumption | omega)) ?_
        refine pw_iconst hX (k := 2) rfl (by decide) dX4_meets_110 (q := 111) rfl ?_
        refine pw_icmpN_ne hX (by first | omega | exact bSw hB (by omega) (by omega) (by omega) | exact bSe hBt (by omega) (by omega) | exact bSe hB1 (by omega) (by omega) | (unfold mPr; split <;> omega)) (by first | omega | exact bSw hB (by omega) (by omega) (by omega) | exact bSe hBt (by omega) (by omega) | exact bSe hB1 (by omega) (by omega) | (unfold mPr; split <;> omega)) (tgt := 198) dX4_meets_111 (q := 114) rfl (by decide) (fun h_111 => ?_) (fun h_111 => ?_)
        · refine pw_iinc hX rfl (by decide) (inc1 _) dX4_meets_198 (q := 201) rfl ?_
          refine pw_goto hX (tgt := 63) dX4_meets_201 (by decide) ?_
          refine pw_fg hX (lv' := [some (.ref (g_ad g 9 0)), some (.int (nI o)), some (.int (nI p)), some (.int (nI (mClk S o p))), some (.int (nI ((mMt (mMeet0 S o p) o p t).2 + x))), some (.int (nI (t + 1))), none, none]) (by repeat first | exact lle_nil | refine lle_cons ?_ | refine lle_none ?_) (pw_eq (congrArg (mW w V) ?_) (by rw [hx1]; rfl) rfl (ih (by omega)))
          show _ = mSee (mP2s (mMt (mMeet0 S o p) o p t).1 o p t) o p t
          rw [← hS1]
          unfold mSee
          first | (rw [if_neg (fun z => h_111 z.1)]; done) | (rw [if_neg (fun z => h_123 z.2.1)]; done) | (rw [if_neg (fun z => by simp [h_134] at z)]; done) | (rw [if_pos ⟨h_111, h_123, h_134⟩]; rfl)
        · refine pw_aload_n hX rfl dX4_meets_114 (q := 115) rfl ?_
          refine pw_iload_n hX rfl dX4_meets_115 (q := 116) rfl ?_
          refine pw_iload hX rfl dX4_meets_116 (q := 118) rfl ?_
          refine pw_iconst hX (k := 0) rfl (by decide) dX4_meets_118 (q := 119) rfl ?_
          refine pw_cvI3 hX dX4_meets_119 (q := 122) rfl mi_X4_en ml_X4_73 rcM ⟨rfl, rfl, by decide, by decide⟩ rfl (Nat.le_of_ble_eq_true rfl) (c_X4_en (by first | assumption | omega) (by first | assumption | omega) (by first | assumption | omega)) ?_
          refine pw_iconst hX (k := 2) rfl (by decide) dX4_meets_122 (q := 123) rfl ?_
          refine pw_icmpN_ne hX (by first | omega | exact bSw hB (by omega) (by omega) (by omega) | exact bSe hBt (by omega) (by omega) | exact bSe hB1 (by omega) (by omega) | (unfold mPr; split <;> omega)) (by first | omega | exact bSw hB (by omega) (by omega) (by omega) | exact bSe hBt (by omega) (by omega) | exact bSe hB1 (by omega) (by omega) | (unfold mPr; split <;> omega)) (tgt := 198) dX4_meets_123 (q := 126) rfl (by decide) (fun h_123 => ?_) (fun h_123 => ?_)
          · refine pw_iinc hX rfl (by decide) (inc1 _) dX4_meets_198 (q := 201) rfl ?_
            refine pw_goto hX (tgt := 63) dX4_meets_201 (by decide) ?_
            refine pw_fg hX (lv' := [some (.ref (g_ad g 9 0)), some (.int (nI o)), some (.int (nI p)), some (.int (nI (mClk S o p))), some (.int (nI ((mMt (mMeet0 S o p) o p t).2 + x))), some (.int (nI (t + 1))), none, none]) (by repeat first | exact lle_nil | refine lle_cons ?_ | refine lle_none ?_) (pw_eq (congrArg (mW w V) ?_) (by rw [hx1]; rfl) rfl (ih (by omega)))
            show _ = mSee (mP2s (mMt (mMeet0 S o p) o p t).1 o p t) o p t
            rw [← hS1]
            unfold mSee
            first | (rw [if_neg (fun z => h_111 z.1)]; done) | (rw [if_neg (fun z => h_123 z.2.1)]; done) | (rw [if_neg (fun z => by simp [h_134] at z)]; done) | (rw [if_pos ⟨h_111, h_123, h_134⟩]; rfl)
          · refine pw_aload_n hX rfl dX4_meets_126 (q := 127) rfl ?_
            refine pw_iload_n hX rfl dX4_meets_127 (q := 128) rfl ?_
            refine pw_iload_n hX rfl dX4_meets_128 (q := 129) rfl ?_
            refine pw_iload hX rfl dX4_meets_129 (q := 131) rfl ?_
            refine pw_cvI3 hX dX4_meets_131 (q := 134) rfl mi_X4_areSame ml_X4_111 rcM ⟨rfl, rfl, by decide, by decide⟩ rfl (Nat.le_of_ble_eq_true rfl) (c_X4_areSame ho hp (by omega) hB1) ?_
            refine pw_ifB_eq hX (tgt := 198) dX4_meets_134 (q := 137) rfl (by decide) (fun h_134 => ?_) (fun h_134 => ?_)
            · refine pw_iinc hX rfl (by decide) (inc1 _) dX4_meets_198 (q := 201) rfl ?_
              refine pw_goto hX (tgt := 63) dX4_meets_201 (by decide) ?_
              refine pw_fg hX (lv' := [some (.ref (g_ad g 9 0)), some (.int (nI o)), some (.int (nI p)), some (.int (nI (mClk S o p))), some (.int (nI ((mMt (mMeet0 S o p) o p t).2 + x))), some (.int (nI (t + 1))), none, none]) (by repeat first | exact lle_nil | refine lle_cons ?_ | refine lle_none ?_) (pw_eq (congrArg (mW w V) ?_) (by rw [hx1]; rfl) rfl (ih (by omega)))
              show _ = mSee (mP2s (mMt (mMeet0 S o p) o p t).1 o p t) o p t
              rw [← hS1]
              unfold mSee
              first | (rw [if_neg (fun z => h_111 z.1)]; done) | (rw [if_neg (fun z => h_123 z.2.1)]; done) | (rw [if_neg (fun z => by simp [h_134] at z)]; done) | (rw [if_pos ⟨h_111, h_123, h_134⟩]; rfl)
            · refine pw_aload_n hX rfl dX4_meets_137 (q := 138) rfl ?_
              refine pw_iload_n hX rfl dX4_meets_138 (q := 139) rfl ?_
              refine pw_iload hX rfl dX4_meets_139 (q := 141) rfl ?_
              refine pw_bipush hX (k := 6) (by decide) dX4_meets_141 (q := 143) rfl ?_
              refine pw_cvI3 hX dX4_meets_143 (q := 146) rfl mi_X4_en ml_X4_73 rcM ⟨rfl, rfl, by decide, by decide⟩ rfl (Nat.le_of_ble_eq_true rfl) (c_X4_en (by first | assumption | omega) (by first | assumption | omega) (by first | assumption | omega)) ?_
              refine pw_aload_n hX rfl dX4_meets_146 (q := 147) rfl ?_
              refine pw_iload_n hX rfl dX4_meets_147 (q := 148) rfl ?_
              refine pw_iload hX rfl dX4_meets_148 (q := 150) rfl ?_
              refine pw_bipush hX (k := 6) (by decide) dX4_meets_150 (q := 152) rfl ?_
              refine pw_cvI3 hX dX4_meets_152 (q := 155) rfl mi_X4_en ml_X4_73 rcM ⟨rfl, rfl, by decide, by decide⟩ rfl (Nat.le_of_ble_eq_true rfl) (c_X4_en (by first | assumption | omega) (by first | assumption | omega) (by first | assumption | omega)) ?_
              refine pw_iorN hX dX4_meets_155 (q := 156) rfl ?_
              refine pw_iconst hX (k := 1) rfl (by decide) dX4_meets_156 (q := 157) rfl ?_
              refine pw_iload_n hX rfl dX4_meets_157 (q := 158) rfl ?_
              refine pw_ishl1 hX (by omega) dX4_meets_158 (q := 159) rfl ?_
              refine pw_iorN hX dX4_meets_159 (q := 160) rfl ?_
              refine pw_iconst hX (k := 1) rfl (by decide) dX4_meets_160 (q := 161) rfl ?_
              refine pw_iload_n hX rfl dX4_meets_161 (q := 162) rfl ?_
              refine pw_ishl1 hX (by omega) dX4_meets_162 (q := 163) rfl ?_
              refine pw_iorN hX dX4_meets_163 (q := 164) rfl ?_
              refine pw_istore hX (by decide) dX4_meets_164 (q := 166) rfl ?_
              refine pw_aload_n hX rfl dX4_meets_166 (q := 167) rfl ?_
              refine pw_getMS hX 0 (by decide) fl_X4_7 rfl dX4_meets_167 (q := 170) rfl ?_
              refine pw_iload_n hX rfl dX4_meets_170 (q := 171) rfl ?_
              refine pw_iload hX rfl dX4_meets_171 (q := 173) rfl ?_
              refine pw_csI2 hX dX4_meets_173 (q := 176) rfl mi_X4_place ml_X4_29 ⟨rfl, rfl, by decide, by decide⟩ rfl (Nat.le_of_ble_eq_true rfl) (c_X4_place) ?_
              refine pw_bipush hX (k := 6) (by decide) dX4_meets_176 (q := 178) rfl ?_
              refine pw_iaddN hX dX4_meets_178 (q := 179) rfl ?_
              refine pw_iload hX rfl dX4_meets_179 (q := 181) rfl ?_
              refine pw_iastS hX (by omega) dX4_meets_181 (q := 182) rfl ?_
              refine pw_aload_n hX rfl dX4_meets_182 (q := 183) rfl ?_
              refine pw_getMS hX 0 (by decide) fl_X4_7 rfl dX4_meets_183 (q := 186) rfl ?_
              refine pw_iload_n hX rfl dX4_meets_186 (q := 187) rfl ?_
              refine pw_iload hX rfl dX4_meets_187 (q := 189) rfl ?_
              refine pw_csI2 hX dX4_meets_189 (q := 192) rfl mi_X4_place ml_X4_29 ⟨rfl, rfl, by decide, by decide⟩ rfl (Nat.le_of_ble_eq_true rfl) (c_X4_place) ?_
              refine pw_bipush hX (k := 6) (by decide) dX4_meets_192 (q := 194) rfl ?_
              refine pw_iaddN hX dX4_meets_194 (q := 195) rfl ?_
              refine pw_iload hX rfl dX4_meets_195 (q := 197) rfl ?_
              refine pw_iastS hX (by omega) dX4_meets_197 (q := 198) rfl ?_
              refine pw_iinc hX rfl (by decide) (inc1 _) dX4_meets_198 (q := 201) rfl ?_
              refine pw_goto hX (tgt := 63) dX4_meets_201 (by decide) ?_
              refine pw_fg hX (lv' := [some (.ref (g_ad g 9 0)), some (.int (nI o)), some (.int (nI p)), some (.int (nI (mClk S o p))), some (.int (nI ((mMt (mMeet0 S o p) o p t).2 + x))), some (.int (nI (t + 1))), none, none]) (by repeat first | exact lle_nil | refine lle_cons ?_ | refine lle_none ?_) (pw_eq (congrArg (mW w V) ?_) (by rw [hx1]; rfl) rfl (ih (by omega)))
              show _ = mSee (mP2s (mMt (mMeet0 S o p) o p t).1 o p t) o p t
              rw [← hS1]
              unfold mSee
              first | (rw [if_neg (fun z => h_111 z.1)]; done) | (rw [if_neg (fun z => h_123 z.2.1)]; done) | (rw [if_neg (fun z => by simp [h_134] at z)]; done) | (rw [if_pos ⟨h_111, h_123, h_134⟩]; rfl)
      · refine pw_ifN_le hX (by first | omega | exact bSw hB (by omega) (by omega) (by omega) | exact bSe hBt (by omega) (by omega) | exact bSe hB1 (by omega) (by omega) | (unfold mPr; split <;> omega)) (tgt := 91) dX4_meets_84 (q := 87) rfl (by decide) (fun h_84 => ?_) (fun h_84 => ?_)
        · have hpb : ¬ mPb (mMt (mMeet0 S o p) o p t).1 o p t = true := fun z => by rw [mPr, if_pos z] at h_84; omega
          have hps : mPs (mMt (mMeet0 S o p) o p t).1 o p t = (mMt (mMeet0 S o p) o p t).1 := if_neg hpb
          refine pw_aload_n hX rfl dX4_meets_91 (q := 92) rfl ?_
          refine pw_iload_n hX rfl dX4_meets_92 (q := 93) rfl ?_
          refine pw_iload_n hX rfl dX4_meets_93 (q := 94) rfl ?_
          refine pw_iload hX rfl dX4_meets_94 (q := 96) rfl ?_
          refine pw_cvI3 hX dX4_meets_96 (q := 99) rfl mi_X4_passes ml_X4_108 rcM ⟨rfl, rfl, by decide, by decide⟩ rfl (Nat.le_of_ble_eq_true rfl) (c_X4_passes hp ho (by omega) (bS_Ps hBt ho hp (by omega))) ?_
          exact pw_fg hX (by repeat first | exact lle_nil | refine lle_cons ?_ | refine lle_none ?_) (J84 _ _ (by first | (rw [mP2s, if_pos hpb]; done) | (rw [hps, mP2s, if_neg hpb]; done)) (by first | (rw [mP2n, if_pos hpb]; done) | (rw [hps, mP2n, if_neg hpb]; done)))
        · have hpb : mPb (mMt (mMeet0 S o p) o p t).1 o p t = true := by
            rw [mPr] at h_84
            by_cases z : mPb (mMt (mMeet0 S o p) o p t).1 o p t = true
            · exact z
            · rw [if_neg z] at h_84; omega
          refine pw_iconst hX (k := 1) rfl (by decide) dX4_meets_87 (q := 88) rfl ?_
          refine pw_goto hX (tgt := 99) dX4_meets_88 (by decide) ?_
          exact pw_fg hX (by repeat first | exact lle_nil | refine lle_cons ?_ | refine lle_none ?_) (J84 _ _ (by first | (rw [mP2s, if_pos hpb]; done) | (rw [hps, mP2s, if_neg hpb]; done)) (by first | (rw [mP2n, if_pos hpb]; done) | (rw [hps, mP2n, if_neg hpb]; done)))
  · refine pw_icmpN_le hX (by first | omega | exact bSw hB (by omega) (by omega) (by omega) | exact bSe hBt (by omega) (by omega) | exact bSe hB1 (by omega) (by omega) | (unfold mPr; split <;> omega)) (by first | omega | exact bSw hB (by omega) (by omega) (by omega) | exact bSe hBt (by omega) (by omega) | exact bSe hB1 (by omega) (by omega) | (unfold mPr; split <;> omega)) (tgt := 24) dX4_meets_12 (q := 15) rfl (by decide) (fun h_12 => ?_) (fun h_12 => ?_)
    · refine pw_aload_n hX rfl dX4_meets_24 (q := 25) rfl ?_
      refine pw_iload_n hX rfl dX4_meets_25 (q := 26) rfl ?_
      refine pw_iconst hX (k := 1) rfl (by decide) dX4_meets_26 (q := 27) rfl ?_
      refine pw_cvI2 hX dX4_meets_27 (q := 30) rfl mi_X4_vi ml_X4_37 rcM ⟨rfl, rfl, by decide, by decide⟩ rfl (Nat.le_of_ble_eq_true rfl) (c_X4_vi (by first | assumption | omega) (by first | assumption | omega)) ?_
      exact J12 _ (by first | (rw [mClk, if_pos h_12]; done) | (rw [mClk, if_neg (by omega)]; done))
    · refine pw_aload_n hX rfl dX4_meets_15 (q := 16) rfl ?_
      refine pw_iload_n hX rfl dX4_meets_16 (q := 17) rfl ?_
      refine pw_iconst hX (k := 1) rfl (by decide) dX4_meets_17 (q := 18) rfl ?_
      refine pw_cvI2 hX dX4_meets_18 (q := 21) rfl mi_X4_vi ml_X4_37 rcM ⟨rfl, rfl, by decide, by decide⟩ rfl (Nat.le_of_ble_eq_true rfl) (c_X4_vi (by first | assumption | omega) (by first | assumption | omega)) ?_
      refine pw_goto hX (tgt := 30) dX4_meets_21 (by decide) ?_
      exact J12 _ (by first | (rw [mClk, if_pos h_12]; done) | (rw [mClk, if_neg (by omega)]; done))
abbrev rm_X4_meetsOne : Room := { frames := 5, cells := 0, slots := 0, locals := 119 }
set_option maxHeartbeats 4000000 in
set_option maxRecDepth 20000 in
theorem c_X4_meetsOne {l : Launch} {g : Geo} {w : WD} {V : Nat → Nat → Nat} {S : Nat → Nat} {v u : Int32} (hB : bS S) : CtI l g yX4_meetsOne cX4_meetsOne 3 (some .int) rm_X4_meetsOne [.ref (g_ad g 9 0), .int v, .int u] (mW w V S) ((mMeets1 S v u).2) (mW w V (mMeets1 S v u).1) := by
  refine ct_of mi_X4_meetsOne.2.2.2.2.2 ⟨rfl, rfl⟩ (List.forall_mem_cons.mpr ⟨rfl, List.forall_mem_cons.mpr ⟨rfl, List.forall_mem_cons.mpr ⟨rfl, fun _ h => absurd h List.not_mem_nil⟩⟩⟩) (Nat.le_of_ble_eq_true rfl) (fun P hX => ?_)
  replace hX : Gd l g RX4 cX4_meetsOne rm_X4_meetsOne 3 (some .int) _ _ P := hX
  show P (mW w V S) 0 [some (.ref (g_ad g 9 0)), some (.int v), some (.int u)] []
  have h7 := hB.2.2.1
  refine pw_aload_n hX rfl dX4_meetsOne_0 (q := 1) rfl ?_
  refine pw_iload_n hX rfl dX4_meetsOne_1 (q := 2) rfl ?_
  refine pw_cvI1 hX dX4_meetsOne_2 (q := 5) rfl mi_X4_isVillager ml_X4_53 rcM ⟨rfl, rfl, by decide, by decide⟩ rfl (Nat.le_of_ble_eq_true rfl) (c_X4_isVillager (by first | assumption | omega)) ?_
  refine pw_ifB_eq hX (tgt := 21) dX4_meetsOne_5 (q := 8) rfl (by decide) (fun h_5 => ?_) (fun h_5 => ?_)
  · refine pw_ldc hX cn_X4_40 dX4_meetsOne_21 (q := 23) rfl ?_
    refine pw_ireturn hX dX4_meetsOne_23 ⟨_, rfl, rfl⟩ ⟨congrArg (fun z => some (Value.int z)) ?_, ?_⟩
    · rw [mMeets1, if_neg (by rintro ⟨a1, a2, a3⟩; simp_all)]
    · rw [mMeets1, if_neg (by rintro ⟨a1, a2, a3⟩; simp_all)]
  · obtain ⟨i, hi, rfl⟩ := hasN_of (by have := hB.2.2.1; omega) h_5
    have hx : ix (nI i) = i := ix_nI (by have := hB.2.2.1; omega)
    have h7 := hB.2.2.1
    refine pw_aload_n hX rfl dX4_meetsOne_8 (q := 9) rfl ?_
    refine pw_iload_n hX rfl dX4_meetsOne_9 (q := 10) rfl ?_
    refine pw_cvI1 hX dX4_meetsOne_10 (q := 13) rfl mi_X4_isVillager ml_X4_53 rcM ⟨rfl, rfl, by decide, by decide⟩ rfl (Nat.le_of_ble_eq_true rfl) (c_X4_isVillager (by first | assumption | omega)) ?_
    refine pw_ifB_eq hX (tgt := 21) dX4_meetsOne_13 (q := 16) rfl (by decide) (fun h_13 => ?_) (fun h_13 => ?_)
    · refine pw_ldc hX cn_X4_40 dX4_meetsOne_21 (q := 23) rfl ?_
      refine pw_ireturn hX dX4_meetsOne_23 ⟨_, rfl, rfl⟩ ⟨congrArg (fun z => some (Value.int z)) ?_, ?_⟩
      · rw [mMeets1, if_neg (by rintro ⟨a1, a2, a3⟩; simp_all)]
      · rw [mMeets1, if_neg (by rintro ⟨a1, a2, a3⟩; simp_all)]
    · obtain ⟨j, hj, rfl⟩ := hasN_of (by omega) h_13
      have hxj : ix (nI j) = j := ix_nI (by omega)
      refine pw_iload_n hX rfl dX4_meetsOne_16 (q := 17) rfl ?_
      refine pw_iload_n hX rfl dX4_meetsOne_17 (q := 18) rfl ?_
      refine pw_icmpN_ne hX (by first | omega | exact bS0 hB | exact bSw hB (by omega) (by omega) (by omega) | exact bSe hB (by omega) (by omega) | exact bS1 hB | exact bS2 hB) (by first | omega | exact bS0 hB | exact bSw hB (by omega) (by omega) (by omega) | exact bSe hB (by omega) (by omega) | exact bS1 hB | exact bS2 hB) (tgt := 24) dX4_meetsOne_18 (q := 21) rfl (by decide) (fun h_18 => ?_) (fun h_18 => ?_)
      · have hne : nI i ≠ nI j := fun z => h_18 ((nI_eq (by omega) (by omega)).mp z)
        refine pw_aload_n hX rfl dX4_meetsOne_24 (q := 25) rfl ?_
        refine pw_iload_n hX rfl dX4_meetsOne_25 (q := 26) rfl ?_
        refine pw_cvI1 hX dX4_meetsOne_26 (q := 29) rfl mi_X4_isAwake ml_X4_57 rcM ⟨rfl, rfl, by decide, by decide⟩ rfl (Nat.le_of_ble_eq_true rfl) (c_X4_isAwake (by first | assumption | omega) (by first | assumption | omega)) ?_
        refine pw_ifB_eq hX (tgt := 49) dX4_meetsOne_29 (q := 32) rfl (by decide) (fun h_29 => ?_) (fun h_29 => ?_)
        · have h_29 := of_decide_eq_false h_29
          refine pw_ldc hX cn_X4_60 dX4_meetsOne_49 (q := 51) rfl ?_
          refine pw_ireturn hX dX4_meetsOne_51 ⟨_, rfl, rfl⟩ ⟨congrArg (fun z => some (Value.int z)) ?_, ?_⟩
          · rw [mMeets1, if_pos ⟨h_5, h_13, hne⟩, hx, hxj]; first | (rw [if_pos ⟨h_29, h_37⟩]; done) | (rw [if_neg (fun z => h_29 z.1)]; done) | (rw [if_neg (fun z => h_37 z.2)]; done)
          · rw [mMeets1, if_pos ⟨h_5, h_13, hne⟩, hx, hxj]; first | (rw [if_pos ⟨h_29, h_37⟩]; done) | (rw [if_neg (fun z => h_29 z.1)]; done) | (rw [if_neg (fun z => h_37 z.2)]; done)
        · have h_29 := of_decide_eq_true h_29
          refine pw_aload_n hX rfl dX4_meetsOne_32 (q := 33) rfl ?_
          refine pw_iload_n hX rfl dX4_meetsOne_33 (q := 34) rfl ?_
          refine pw_cvI1 hX dX4_meetsOne_34 (q := 37) rfl mi_X4_isAwake ml_X4_57 rcM ⟨rfl, rfl, by decide, by decide⟩ rfl (Nat.le_of_ble_eq_true rfl) (c_X4_isAwake (by first | assumption | omega) (by first | assumption | omega)) ?_
          refine pw_ifB_eq hX (tgt := 49) dX4_meetsOne_37 (q := 40) rfl (by decide) (fun h_37 => ?_) (fun h_37 => ?_)
          · have h_37 := of_decide_eq_false h_37
            refine pw_ldc hX cn_X4_60 dX4_meetsOne_49 (q := 51) rfl ?_
            refine pw_ireturn hX dX4_meetsOne_51 ⟨_, rfl, rfl⟩ ⟨congrArg (fun z => some (Value.int z)) ?_, ?_⟩
            · rw [mMeets1, if_pos ⟨h_5, h_13, hne⟩, hx, hxj]; first | (rw [if_pos ⟨h_29, h_37⟩]; done) | (rw [if_neg (fun z => h_29 z.1)]; done) | (rw [if_neg (fun z => h_37 z.2)]; done)
            · rw [mMeets1, if_pos ⟨h_5, h_13, hne⟩, hx, hxj]; first | (rw [if_pos ⟨h_29, h_37⟩]; done) | (rw [if_neg (fun z => h_29 z.1)]; done) | (rw [if_neg (fun z => h_37 z.2)]; done)
          · have h_37 := of_decide_eq_true h_37
            refine pw_aload_n hX rfl dX4_meetsOne_40 (q := 41) rfl ?_
            refine pw_iload_n hX rfl dX4_meetsOne_41 (q := 42) rfl ?_
            refine pw_iload_n hX rfl dX4_meetsOne_42 (q := 43) rfl ?_
            refine pw_cvI2 hX dX4_meetsOne_43 (q := 46) rfl mi_X4_meets ml_X4_114 rcM ⟨rfl, rfl, by decide, by decide⟩ rfl (Nat.le_of_ble_eq_true rfl) (c_X4_meets (by first | assumption | omega) (by first | assumption | omega) (by first | assumption | omega)) ?_
            refine pw_goto hX (tgt := 51) dX4_meetsOne_46 (by decide) ?_
            refine pw_ireturn hX dX4_meetsOne_51 ⟨_, rfl, rfl⟩ ⟨congrArg (fun z => some (Value.int z)) ?_, ?_⟩
            · rw [mMeets1, if_pos ⟨h_5, h_13, hne⟩, hx, hxj]; first | (rw [if_pos ⟨h_29, h_37⟩]; done) | (rw [if_neg (fun z => h_29 z.1)]; done) | (rw [if_neg (fun z => h_37 z.2)]; done)
            · rw [mMeets1, if_pos ⟨h_5, h_13, hne⟩, hx, hxj]; first | (rw [if_pos ⟨h_29, h_37⟩]; done) | (rw [if_neg (fun z => h_29 z.1)]; done) | (rw [if_neg (fun z => h_37 z.2)]; done)
      · refine pw_ldc hX cn_X4_40 dX4_meetsOne_21 (q := 23) rfl ?_
        refine pw_ireturn hX dX4_meetsOne_23 ⟨_, rfl, rfl⟩ ⟨congrArg (fun z => some (Value.int z)) ?_, ?_⟩
        · rw [mMeets1, if_neg (by rintro ⟨a1, a2, a3⟩; simp_all)]
        · rw [mMeets1, if_neg (by rintro ⟨a1, a2, a3⟩; simp_all)]
abbrev rm_X4_meet : Room := { frames := 6, cells := 0, slots := 0, locals := 141 }
set_option maxHeartbeats 4000000 in
set_option maxRecDepth 20000 in
theorem c_X4_meet {l : Launch} {g : Geo} {w : WD} {V : Nat → Nat → Nat} {S : Nat → Nat} {v u : Int32} (h4 : V 0 4 ≤ 4) (hB : bS S) : CtI l g yX4_meet cX4_meet 3 (some .int) rm_X4_meet [.ref (g_ad g 9 0), .int v, .int u] (mW w V S) ((mMeets1 S v u).2) (mW w (mActed (vA V 3 S) (mMeets1 S v u).2) (mMeets1 S v u).1) := by
  refine ct_of mi_X4_meet.2.2.2.2.2 ⟨rfl, rfl⟩ (List.forall_mem_cons.mpr ⟨rfl, List.forall_mem_cons.mpr ⟨rfl, List.forall_mem_cons.mpr ⟨rfl, fun _ h => absurd h List.not_mem_nil⟩⟩⟩) (Nat.le_of_ble_eq_true rfl) (fun P hX => ?_)
  replace hX : Gd l g RX4 cX4_meet rm_X4_meet 3 (some .int) _ _ P := hX
  show P (mW w V S) 0 [some (.ref (g_ad g 9 0)), some (.int v), some (.int u)] []
  have h7 := hB.2.2.1
  refine pw_aload_n hX rfl dX4_meet_0 (q := 1) rfl ?_
  refine pw_cvV0 hX dX4_meet_1 (q := 4) rfl mi_X4_keeps ml_X4_46 rcM ⟨rfl, rfl, by decide, by decide⟩ rfl (Nat.le_of_ble_eq_true rfl) (c_X4_keeps) ?_
  refine pw_aload_n hX rfl dX4_meet_4 (q := 5) rfl ?_
  refine pw_aload_n hX rfl dX4_meet_5 (q := 6) rfl ?_
  refine pw_iload_n hX rfl dX4_meet_6 (q := 7) rfl ?_
  refine pw_iload_n hX rfl dX4_meet_7 (q := 8) rfl ?_
  refine pw_cvI2 hX dX4_meet_8 (q := 11) rfl mi_X4_meetsOne ml_X4_117 rcM ⟨rfl, rfl, by decide, by decide⟩ rfl (Nat.le_of_ble_eq_true rfl) (c_X4_meetsOne hB) ?_
  refine pw_cvI1 hX dX4_meet_11 (q := 14) rfl mi_X4_acted ml_X4_49 rcM ⟨rfl, rfl, by decide, by decide⟩ rfl (Nat.le_of_ble_eq_true rfl) (c_X4_acted (show (vA V 3 S) 0 4 ≤ 4 from h4)) ?_
  refine pw_ireturn hX dX4_meet_14 ⟨_, rfl, rfl⟩ ⟨congrArg (fun z => some (Value.int z)) ?_, ?_⟩
  · rfl
  · rfl
end
section
theorem zz_end : True := trivial
end
