theorem q_7 {w : WD} {o : Nat} {O V : Nat → Nat → Nat} (h : o < 7) : (wO (oW w O) o V).1 7 = O := by rw [wO_n _ _ (show 7 ≠ o by omega)]; exact oW_7 w O
theorem CtI.q {l : Launch} {g : Geo} {y : MethodName} {bytes : ByteArray} {maxL : Nat} {ret : Option FieldType} {rm : Room} {av : List Value} {w : WD} {o : Nat} {O O' V : Nat → Nat → Nat} {r : Int32} (h : CtI l g y bytes maxL ret rm av (oW (wO w o V) O) r (oW (wO w o V) O')) (ho : o < 7) : CtI l g y bytes maxL ret rm av (wO (oW w O) o V) r (wO (oW w O') o V) := by
  rw [oW_V _ _ _ ho, oW_V _ _ _ ho] at h; exact h
theorem CtV.q {l : Launch} {g : Geo} {y : MethodName} {bytes : ByteArray} {maxL : Nat} {ret : Option FieldType} {rm : Room} {av : List Value} {w : WD} {o : Nat} {O O' V : Nat → Nat → Nat} (h : CtV l g y bytes maxL ret rm av (oW (wO w o V) O) (oW (wO w o V) O')) (ho : o < 7) : CtV l g y bytes maxL ret rm av (wO (oW w O) o V) (wO (oW w O') o V) := by
  rw [oW_V _ _ _ ho, oW_V _ _ _ ho] at h; exact h
def tO (V O : Nat → Nat → Nat) (s e : Nat) : Nat := if rOk (O 1) s e (O 2) = true then (if kThere V (O 1 s) (rAll (O 1) s e (O 2)).2.2.2.2 = true then (if (kDoes V (O 1 s) (rAll (O 1) s e (O 2)).2.2.2.2).2 < 0 then 3 else 0) else 2) else 1
def tOV (V O : Nat → Nat → Nat) (s e : Nat) : Nat → Nat → Nat := if rOk (O 1) s e (O 2) = true ∧ kThere V (O 1 s) (rAll (O 1) s e (O 2)).2.2.2.2 = true then (kDoes V (O 1 s) (rAll (O 1) s e (O 2)).2.2.2.2).1 else V
theorem tO_le (V O : Nat → Nat → Nat) (s e : Nat) : tO V O s e ≤ 3 := by
  unfold tO
  (repeat' split) <;> omega
def kSF (O : Nat → Nat → Nat) (p r : Nat) : Nat → Nat → Nat := vU (vU O 0 4 p) 0 5 r
abbrev rm_X1_namesExist : Room := { frames := 1, cells := 0, slots := 0, locals := 21 }
set_option maxHeartbeats 800000 in
set_option maxRecDepth 20000 in
theorem c_X1_namesExist {l : Launch} {g : Geo} {w : WD} {O V : Nat → Nat → Nat} {o : Nat} {c : Nat} (ho : o < 7) (hV : bV V) (hc : c < 2 ^ 31) : CtI l g yX1_namesExist cX1_namesExist 3 (some .boolean) rm_X1_namesExist [.ref (g_ad g 7 0), .int (nI c), .ref (g_ad g o 0)] (wO (oW w O) o V) (bI (kThere V c (O 2))) (wO (oW w O) o V) := by
  refine ct_of mi_X1_namesExist.2.2.2.2.2 ⟨rfl, rfl⟩ (List.forall_mem_cons.mpr ⟨rfl, List.forall_mem_cons.mpr ⟨rfl, List.forall_mem_cons.mpr ⟨rfl, fun _ h => absurd h List.not_mem_nil⟩⟩⟩) (Nat.le_of_ble_eq_true rfl) (fun P hX => ?_)
  replace hX : Gd l g RX1 cX1_namesExist rm_X1_namesExist 3 (some .boolean) _ _ P := hX
  show P (wO (oW w O) o V) 0 [some (.ref (g_ad g 7 0)), some (.int (nI c)), some (.ref (g_ad g o 0))] []
  refine pw_iload_n hX rfl dX1_namesExist_0 (q := 1) rfl ?_
  rcases (show c = 98 ∨ c = 109 ∨ c = 115 ∨ c = 116 ∨ c = 119 ∨ (c ≠ 98 ∧ c ≠ 109 ∧ c ≠ 115 ∧ c ≠ 116 ∧ c ≠ 119) by omega) with rfl | rfl | rfl | rfl | rfl | hd
  · skip
    · refine pw_lookup hX (off := 51) (tgt := 52) dX1_namesExist_1 (by decide) (by rw [nI_toInt hc]; exact (swE _).trans (by decide)) (by decide) ?_
      refine pw_aload_n hX rfl dX1_namesExist_52 (q := 53) rfl ?_
      refine pw_aload_n hX rfl dX1_namesExist_53 (q := 54) rfl ?_
      refine pw_getO hX 2 (by decide) fl_X1_19 rfl dX1_namesExist_54 (q := 57) rfl ?_
      refine pw_iconst hX (k := 0) rfl (by decide) dX1_namesExist_57 (q := 58) rfl ?_
      refine pw_ialdG hX (by omega) dX1_namesExist_58 (q := 59) rfl ?_
      repeat first | rw [q_7 ho]
      refine pw_cvI1 hX dX1_namesExist_59 (q := 62) rfl mi_X2_has ml_X1_56 (rcV ho) ⟨rfl, rfl, by decide, by decide⟩ rfl (Nat.le_of_ble_eq_true rfl) (c_X2_has ho hV) ?_
      refine pw_ifB_eq hX (tgt := 81) dX1_namesExist_62 (q := 65) rfl (by decide) (fun h_62 => ?_) (fun h_62 => ?_)
      · refine pw_iconst hX (k := 0) rfl (by decide) dX1_namesExist_81 (q := 82) rfl ?_
        refine pw_ireturn hX dX1_namesExist_82 ⟨_, rfl, by first | exact bI_nar _ | decide | rfl⟩ ⟨congrArg (fun z => some (Value.int z)) ?_, ?_⟩
        · unfold kThere; first | (rw [if_pos (by decide), h_62]; first | rfl | (rw [h_74]; rfl))
        · rfl
      · refine pw_aload_n hX rfl dX1_namesExist_65 (q := 66) rfl ?_
        refine pw_getO hX 2 (by decide) fl_X1_19 rfl dX1_namesExist_66 (q := 69) rfl ?_
        refine pw_iconst hX (k := 1) rfl (by decide) dX1_namesExist_69 (q := 70) rfl ?_
        refine pw_ialdG hX (by omega) dX1_namesExist_70 (q := 71) rfl ?_
        repeat first | rw [q_7 ho]
        refine pw_cnI1 hX dX1_namesExist_71 (q := 74) rfl mi_X3_isTopic mn_X1_62 ⟨rfl, rfl, by decide, by decide⟩ rfl (Nat.le_of_ble_eq_true rfl) (c_X3_isTopic) ?_
        refine pw_ifB_eq hX (tgt := 81) dX1_namesExist_74 (q := 77) rfl (by decide) (fun h_74 => ?_) (fun h_74 => ?_)
        · refine pw_iconst hX (k := 0) rfl (by decide) dX1_namesExist_81 (q := 82) rfl ?_
          refine pw_ireturn hX dX1_namesExist_82 ⟨_, rfl, by first | exact bI_nar _ | decide | rfl⟩ ⟨congrArg (fun z => some (Value.int z)) ?_, ?_⟩
          · unfold kThere; first | (rw [if_pos (by decide), h_62]; first | rfl | (rw [h_74]; rfl))
          · rfl
        · refine pw_iconst hX (k := 1) rfl (by decide) dX1_namesExist_77 (q := 78) rfl ?_
          refine pw_goto hX (tgt := 82) dX1_namesExist_78 (by decide) ?_
          refine pw_ireturn hX dX1_namesExist_82 ⟨_, rfl, by first | exact bI_nar _ | decide | rfl⟩ ⟨congrArg (fun z => some (Value.int z)) ?_, ?_⟩
          · unfold kThere; first | (rw [if_pos (by decide), h_62]; first | rfl | (rw [h_74]; rfl))
          · rfl
  · skip
    · refine pw_lookup hX (off := 82) (tgt := 83) dX1_namesExist_1 (by decide) (by rw [nI_toInt hc]; exact (swE _).trans (by decide)) (by decide) ?_
      refine pw_aload_n hX rfl dX1_namesExist_83 (q := 84) rfl ?_
      refine pw_aload_n hX rfl dX1_namesExist_84 (q := 85) rfl ?_
      refine pw_getO hX 2 (by decide) fl_X1_19 rfl dX1_namesExist_85 (q := 88) rfl ?_
      refine pw_iconst hX (k := 0) rfl (by decide) dX1_namesExist_88 (q := 89) rfl ?_
      refine pw_ialdG hX (by omega) dX1_namesExist_89 (q := 90) rfl ?_
      repeat first | rw [q_7 ho]
      refine pw_cvI1 hX dX1_namesExist_90 (q := 93) rfl mi_X2_has ml_X1_56 (rcV ho) ⟨rfl, rfl, by decide, by decide⟩ rfl (Nat.le_of_ble_eq_true rfl) (c_X2_has ho hV) ?_
      refine pw_ifB_eq hX (tgt := 113) dX1_namesExist_93 (q := 96) rfl (by decide) (fun h_93 => ?_) (fun h_93 => ?_)
      · refine pw_iconst hX (k := 0) rfl (by decide) dX1_namesExist_113 (q := 114) rfl ?_
        refine pw_ireturn hX dX1_namesExist_114 ⟨_, rfl, by first | exact bI_nar _ | decide | rfl⟩ ⟨congrArg (fun z => some (Value.int z)) ?_, ?_⟩
        · unfold kThere; rw [if_neg (by decide), if_pos rfl, h_93]; first | rfl | (rw [h_106]; rfl)
        · rfl
      · refine pw_aload_n hX rfl dX1_namesExist_96 (q := 97) rfl ?_
        refine pw_aload_n hX rfl dX1_namesExist_97 (q := 98) rfl ?_
        refine pw_getO hX 2 (by decide) fl_X1_19 rfl dX1_namesExist_98 (q := 101) rfl ?_
        refine pw_iconst hX (k := 1) rfl (by decide) dX1_namesExist_101 (q := 102) rfl ?_
        refine pw_ialdG hX (by omega) dX1_namesExist_102 (q := 103) rfl ?_
        repeat first | rw [q_7 ho]
        refine pw_cvI1 hX dX1_namesExist_103 (q := 106) rfl mi_X2_has ml_X1_56 (rcV ho) ⟨rfl, rfl, by decide, by decide⟩ rfl (Nat.le_of_ble_eq_true rfl) (c_X2_has ho hV) ?_
        refine pw_ifB_eq hX (tgt := 113) dX1_namesExist_106 (q := 109) rfl (by decide) (fun h_106 => ?_) (fun h_106 => ?_)
        · refine pw_iconst hX (k := 0) rfl (by decide) dX1_namesExist_113 (q := 114) rfl ?_
          refine pw_ireturn hX dX1_namesExist_114 ⟨_, rfl, by first | exact bI_nar _ | decide | rfl⟩ ⟨congrArg (fun z => some (Value.int z)) ?_, ?_⟩
          · unfold kThere; rw [if_neg (by decide), if_pos rfl, h_93]; first | rfl | (rw [h_106]; rfl)
          · rfl
        · refine pw_iconst hX (k := 1) rfl (by decide) dX1_namesExist_109 (q := 110) rfl ?_
          refine pw_goto hX (tgt := 114) dX1_namesExist_110 (by decide) ?_
          refine pw_ireturn hX dX1_namesExist_114 ⟨_, rfl, by first | exact bI_nar _ | decide | rfl⟩ ⟨congrArg (fun z => some (Value.int z)) ?_, ?_⟩
          · unfold kThere; rw [if_neg (by decide), if_pos rfl, h_93]; first | rfl | (rw [h_106]; rfl)
          · rfl
  · skip
    · refine pw_lookup hX (off := 114) (tgt := 115) dX1_namesExist_1 (by decide) (by rw [nI_toInt hc]; exact (swE _).trans (by decide)) (by decide) ?_
      refine pw_aload_n hX rfl dX1_namesExist_115 (q := 116) rfl ?_
      refine pw_aload_n hX rfl dX1_namesExist_116 (q := 117) rfl ?_
      refine pw_getO hX 2 (by decide) fl_X1_19 rfl dX1_namesExist_117 (q := 120) rfl ?_
      refine pw_iconst hX (k := 0) rfl (by decide) dX1_namesExist_120 (q := 121) rfl ?_
      refine pw_ialdG hX (by omega) dX1_namesExist_121 (q := 122) rfl ?_
      repeat first | rw [q_7 ho]
      refine pw_cvI1 hX dX1_namesExist_122 (q := 125) rfl mi_X2_has ml_X1_56 (rcV ho) ⟨rfl, rfl, by decide, by decide⟩ rfl (Nat.le_of_ble_eq_true rfl) (c_X2_has ho hV) ?_
      refine pw_ireturn hX dX1_namesExist_125 ⟨_, rfl, by first | exact bI_nar _ | decide | rfl⟩ ⟨congrArg (fun z => some (Value.int z)) ?_, ?_⟩
      · unfold kThere; rw [if_neg (by decide), if_neg (by decide), if_pos (by decide)]
      · rfl
  · skip
    · refine pw_lookup hX (off := 51) (tgt := 52) dX1_namesExist_1 (by decide) (by rw [nI_toInt hc]; exact (swE _).trans (by decide)) (by decide) ?_
      refine pw_aload_n hX rfl dX1_namesExist_52 (q := 53) rfl ?_
      refine pw_aload_n hX rfl dX1_namesExist_53 (q := 54) rfl ?_
      refine pw_getO hX 2 (by decide) fl_X1_19 rfl dX1_namesExist_54 (q := 57) rfl ?_
      refine pw_iconst hX (k := 0) rfl (by decide) dX1_namesExist_57 (q := 58) rfl ?_
      refine pw_ialdG hX (by omega) dX1_namesExist_58 (q := 59) rfl ?_
      repeat first | rw [q_7 ho]
      refine pw_cvI1 hX dX1_namesExist_59 (q := 62) rfl mi_X2_has ml_X1_56 (rcV ho) ⟨rfl, rfl, by decide, by decide⟩ rfl (Nat.le_of_ble_eq_true rfl) (c_X2_has ho hV) ?_
      refine pw_ifB_eq hX (tgt := 81) dX1_namesExist_62 (q := 65) rfl (by decide) (fun h_62 => ?_) (fun h_62 => ?_)
      · refine pw_iconst hX (k := 0) rfl (by decide) dX1_namesExist_81 (q := 82) rfl ?_
        refine pw_ireturn hX dX1_namesExist_82 ⟨_, rfl, by first | exact bI_nar _ | decide | rfl⟩ ⟨congrArg (fun z => some (Value.int z)) ?_, ?_⟩
        · unfold kThere; first | (rw [if_pos (by decide), h_62]; first | rfl | (rw [h_74]; rfl))
        · rfl
      · refine pw_aload_n hX rfl dX1_namesExist_65 (q := 66) rfl ?_
        refine pw_getO hX 2 (by decide) fl_X1_19 rfl dX1_namesExist_66 (q := 69) rfl ?_
        refine pw_iconst hX (k := 1) rfl (by decide) dX1_namesExist_69 (q := 70) rfl ?_
        refine pw_ialdG hX (by omega) dX1_namesExist_70 (q := 71) rfl ?_
        repeat first | rw [q_7 ho]
        refine pw_cnI1 hX dX1_namesExist_71 (q := 74) rfl mi_X3_isTopic mn_X1_62 ⟨rfl, rfl, by decide, by decide⟩ rfl (Nat.le_of_ble_eq_true rfl) (c_X3_isTopic) ?_
        refine pw_ifB_eq hX (tgt := 81) dX1_namesExist_74 (q := 77) rfl (by decide) (fun h_74 => ?_) (fun h_74 => ?_)
        · refine pw_iconst hX (k := 0) rfl (by decide) dX1_namesExist_81 (q := 82) rfl ?_
          refine pw_ireturn hX dX1_namesExist_82 ⟨_, rfl, by first | exact bI_nar _ | decide | rfl⟩ ⟨congrArg (fun z => some (Value.int z)) ?_, ?_⟩
          · unfold kThere; first | (rw [if_pos (by decide), h_62]; first | rfl | (rw [h_74]; rfl))
          · rfl
        · refine pw_iconst hX (k := 1) rfl (by decide) dX1_namesExist_77 (q := 78) rfl ?_
          refine pw_goto hX (tgt := 82) dX1_namesExist_78 (by decide) ?_
          refine pw_ireturn hX dX1_namesExist_82 ⟨_, rfl, by first | exact bI_nar _ | decide | rfl⟩ ⟨congrArg (fun z => some (Value.int z)) ?_, ?_⟩
          · unfold kThere; first | (rw [if_pos (by decide), h_62]; first | rfl | (rw [h_74]; rfl))
          · rfl
  · skip
    · refine pw_lookup hX (off := 114) (tgt := 115) dX1_namesExist_1 (by decide) (by rw [nI_toInt hc]; exact (swE _).trans (by decide)) (by decide) ?_
      refine pw_aload_n hX rfl dX1_namesExist_115 (q := 116) rfl ?_
      refine pw_aload_n hX rfl dX1_namesExist_116 (q := 117) rfl ?_
      refine pw_getO hX 2 (by decide) fl_X1_19 rfl dX1_namesExist_117 (q := 120) rfl ?_
      refine pw_iconst hX (k := 0) rfl (by decide) dX1_namesExist_120 (q := 121) rfl ?_
      refine pw_ialdG hX (by omega) dX1_namesExist_121 (q := 122) rfl ?_
      repeat first | rw [q_7 ho]
      refine pw_cvI1 hX dX1_namesExist_122 (q := 125) rfl mi_X2_has ml_X1_56 (rcV ho) ⟨rfl, rfl, by decide, by decide⟩ rfl (Nat.le_of_ble_eq_true rfl) (c_X2_has ho hV) ?_
      refine pw_ireturn hX dX1_namesExist_125 ⟨_, rfl, by first | exact bI_nar _ | decide | rfl⟩ ⟨congrArg (fun z => some (Value.int z)) ?_, ?_⟩
      · unfold kThere; rw [if_neg (by decide), if_neg (by decide), if_pos (by decide)]
      · rfl
  · skip
    · refine pw_lookup hX (off := 125) (tgt := 126) dX1_namesExist_1 (by decide) (by rw [nI_toInt hc]; exact (swE _).trans (by rw [if_neg hd.1, if_neg hd.2.1, if_neg hd.2.2.1, if_neg hd.2.2.2.1, if_neg hd.2.2.2.2])) (by decide) ?_
      refine pw_iconst hX (k := 1) rfl (by decide) dX1_namesExist_126 (q := 127) rfl ?_
      refine pw_ireturn hX dX1_namesExist_127 ⟨_, rfl, by first | exact bI_nar _ | decide | rfl⟩ ⟨congrArg (fun z => some (Value.int z)) ?_, ?_⟩
      · unfold kThere; rw [if_neg (by omega), if_neg (by omega), if_neg (by omega)]; rfl
      · rfl
abbrev rm_X1_doOrder : Room := { frames := 5, cells := 0, slots := 0, locals := 120 }
set_option maxHeartbeats 800000 in
set_option maxRecDepth 20000 in
theorem c_X1_doOrder {l : Launch} {g : Geo} {w : WD} {O V : Nat → Nat → Nat} {o : Nat} {c : Nat} (ho : o < 7) (hP : bP V) (hc2 : ∀ i, i < 7 → (V 2 i + 1) * 8 + i < 2 ^ 30) (hc : c < 2 ^ 31) : CtI l g yX1_doOrder cX1_doOrder 3 (some .int) rm_X1_doOrder [.ref (g_ad g 7 0), .int (nI c), .ref (g_ad g o 0)] (wO (oW w O) o V) ((kDoes V c (O 2)).2) (wO (oW w O) o (kDoes V c (O 2)).1) := by
  refine ct_of mi_X1_doOrder.2.2.2.2.2 ⟨rfl, rfl⟩ (List.forall_mem_cons.mpr ⟨rfl, List.forall_mem_cons.mpr ⟨rfl, List.forall_mem_cons.mpr ⟨rfl, fun _ h => absurd h List.not_mem_nil⟩⟩⟩) (Nat.le_of_ble_eq_true rfl) (fun P hX => ?_)
  replace hX : Gd l g RX1 cX1_doOrder rm_X1_doOrder 3 (some .int) _ _ P := hX
  show P (wO (oW w O) o V) 0 [some (.ref (g_ad g 7 0)), some (.int (nI c)), some (.ref (g_ad g o 0))] []
  refine pw_iload_n hX rfl dX1_doOrder_0 (q := 1) rfl ?_
  rcases (show c = 98 ∨ c = 109 ∨ c = 115 ∨ c = 116 ∨ c = 119 ∨ (c ≠ 98 ∧ c ≠ 109 ∧ c ≠ 115 ∧ c ≠ 116 ∧ c ≠ 119) by omega) with rfl | rfl | rfl | rfl | rfl | hd
  · skip
    · refine pw_lookup hX (off := 75) (tgt := 76) dX1_doOrder_1 (by decide) (by rw [nI_toInt hc]; exact (swX4 _).trans (by decide)) (by decide) ?_
      refine pw_aload_n hX rfl dX1_doOrder_76 (q := 77) rfl ?_
      refine pw_aload_n hX rfl dX1_doOrder_77 (q := 78) rfl ?_
      refine pw_getO hX 2 (by decide) fl_X1_19 rfl dX1_doOrder_78 (q := 81) rfl ?_
      refine pw_iconst hX (k := 0) rfl (by decide) dX1_doOrder_81 (q := 82) rfl ?_
      refine pw_ialdG hX (by omega) dX1_doOrder_82 (q := 83) rfl ?_
      repeat first | rw [q_7 ho]
      refine pw_aload_n hX rfl dX1_doOrder_83 (q := 84) rfl ?_
      refine pw_getO hX 2 (by decide) fl_X1_19 rfl dX1_doOrder_84 (q := 87) rfl ?_
      refine pw_iconst hX (k := 1) rfl (by decide) dX1_doOrder_87 (q := 88) rfl ?_
      refine pw_ialdG hX (by omega) dX1_doOrder_88 (q := 89) rfl ?_
      repeat first | rw [q_7 ho]
      refine pw_cvI2 hX dX1_doOrder_89 (q := 92) rfl mi_X2_makeTomb ml_X1_69 (rcV ho) ⟨rfl, rfl, by decide, by decide⟩ rfl (Nat.le_of_ble_eq_true rfl) (c_X2_makeTomb ho hP.1 hc2) ?_
      refine pw_ireturn hX dX1_doOrder_92 ⟨_, rfl, rfl⟩ ⟨congrArg (fun z => some (Value.int z)) ?_, ?_⟩
      · first | rw [kDoes_98] | rw [kDoes_109] | rw [kDoes_115] | rw [kDoes_116] | rw [kDoes_119] | rw [kDoes_d _ _ hd]
      · first | rw [kDoes_98] | rw [kDoes_109] | rw [kDoes_115] | rw [kDoes_116] | rw [kDoes_119] | rw [kDoes_d _ _ hd]
  · skip
    · refine pw_lookup hX (off := 92) (tgt := 93) dX1_doOrder_1 (by decide) (by rw [nI_toInt hc]; exact (swX4 _).trans (by decide)) (by decide) ?_
      refine pw_aload_n hX rfl dX1_doOrder_93 (q := 94) rfl ?_
      refine pw_aload_n hX rfl dX1_doOrder_94 (q := 95) rfl ?_
      refine pw_getO hX 2 (by decide) fl_X1_19 rfl dX1_doOrder_95 (q := 98) rfl ?_
      refine pw_iconst hX (k := 0) rfl (by decide) dX1_doOrder_98 (q := 99) rfl ?_
      refine pw_ialdG hX (by omega) dX1_doOrder_99 (q := 100) rfl ?_
      repeat first | rw [q_7 ho]
      refine pw_aload_n hX rfl dX1_doOrder_100 (q := 101) rfl ?_
      refine pw_getO hX 2 (by decide) fl_X1_19 rfl dX1_doOrder_101 (q := 104) rfl ?_
      refine pw_iconst hX (k := 1) rfl (by decide) dX1_doOrder_104 (q := 105) rfl ?_
      refine pw_ialdG hX (by omega) dX1_doOrder_105 (q := 106) rfl ?_
      repeat first | rw [q_7 ho]
      refine pw_cvI2 hX dX1_doOrder_106 (q := 109) rfl mi_X2_bringTogether ml_X1_73 (rcV ho) ⟨rfl, rfl, by decide, by decide⟩ rfl (Nat.le_of_ble_eq_true rfl) (c_X2_bringTogether ho hP.1) ?_
      refine pw_ireturn hX dX1_doOrder_109 ⟨_, rfl, rfl⟩ ⟨congrArg (fun z => some (Value.int z)) ?_, ?_⟩
      · first | rw [kDoes_98] | rw [kDoes_109] | rw [kDoes_115] | rw [kDoes_116] | rw [kDoes_119] | rw [kDoes_d _ _ hd]
      · first | rw [kDoes_98] | rw [kDoes_109] | rw [kDoes_115] | rw [kDoes_116] | rw [kDoes_119] | rw [kDoes_d _ _ hd]
  · skip
    · refine pw_lookup hX (off := 109) (tgt := 110) dX1_doOrder_1 (by decide) (by rw [nI_toInt hc]; exact (swX4 _).trans (by decide)) (by decide) ?_
      refine pw_aload_n hX rfl dX1_doOrder_110 (q := 111) rfl ?_
      refine pw_aload_n hX rfl dX1_doOrder_111 (q := 112) rfl ?_
      refine pw_getO hX 2 (by decide) fl_X1_19 rfl dX1_doOrder_112 (q := 115) rfl ?_
      refine pw_iconst hX (k := 0) rfl (by decide) dX1_doOrder_115 (q := 116) rfl ?_
      refine pw_ialdG hX (by omega) dX1_doOrder_116 (q := 117) rfl ?_
      repeat first | rw [q_7 ho]
      refine pw_cvI1 hX dX1_doOrder_117 (q := 120) rfl mi_X2_fallAsleep ml_X1_76 (rcV ho) ⟨rfl, rfl, by decide, by decide⟩ rfl (Nat.le_of_ble_eq_true rfl) (c_X2_fallAsleep ho hP.1) ?_
      refine pw_ireturn hX dX1_doOrder_120 ⟨_, rfl, rfl⟩ ⟨congrArg (fun z => some (Value.int z)) ?_, ?_⟩
      · first | rw [kDoes_98] | rw [kDoes_109] | rw [kDoes_115] | rw [kDoes_116] | rw [kDoes_119] | rw [kDoes_d _ _ hd]
      · first | rw [kDoes_98] | rw [kDoes_109] | rw [kDoes_115] | rw [kDoes_116] | rw [kDoes_119] | rw [kDoes_d _ _ hd]
  · skip
    · refine pw_lookup hX (off := 51) (tgt := 52) dX1_doOrder_1 (by decide) (by rw [nI_toInt hc]; exact (swX4 _).trans (by decide)) (by decide) ?_
      refine pw_aload_n hX rfl dX1_doOrder_52 (q := 53) rfl ?_
      refine pw_aload_n hX rfl dX1_doOrder_53 (q := 54) rfl ?_
      refine pw_getO hX 2 (by decide) fl_X1_19 rfl dX1_doOrder_54 (q := 57) rfl ?_
      refine pw_iconst hX (k := 0) rfl (by decide) dX1_doOrder_57 (q := 58) rfl ?_
      refine pw_ialdG hX (by omega) dX1_doOrder_58 (q := 59) rfl ?_
      repeat first | rw [q_7 ho]
      refine pw_aload_n hX rfl dX1_doOrder_59 (q := 60) rfl ?_
      refine pw_getO hX 2 (by decide) fl_X1_19 rfl dX1_doOrder_60 (q := 63) rfl ?_
      refine pw_iconst hX (k := 1) rfl (by decide) dX1_doOrder_63 (q := 64) rfl ?_
      refine pw_ialdG hX (by omega) dX1_doOrder_64 (q := 65) rfl ?_
      repeat first | rw [q_7 ho]
      refine pw_aload_n hX rfl dX1_doOrder_65 (q := 66) rfl ?_
      refine pw_getO hX 2 (by decide) fl_X1_19 rfl dX1_doOrder_66 (q := 69) rfl ?_
      refine pw_iconst hX (k := 2) rfl (by decide) dX1_doOrder_69 (q := 70) rfl ?_
      refine pw_ialdG hX (by omega) dX1_doOrder_70 (q := 71) rfl ?_
      repeat first | rw [q_7 ho]
      refine pw_iconst hX (k := 0) rfl (by decide) dX1_doOrder_71 (q := 72) rfl ?_
      refine pw_cvI4 hX dX1_doOrder_72 (q := 75) rfl mi_X2_makeRumor ml_X1_65 (rcV ho) ⟨rfl, rfl, by decide, by decide⟩ rfl (Nat.le_of_ble_eq_true rfl) (c_X2_makeRumor ho hP.1) ?_
      refine pw_ireturn hX dX1_doOrder_75 ⟨_, rfl, rfl⟩ ⟨congrArg (fun z => some (Value.int z)) ?_, ?_⟩
      · first | rw [kDoes_98] | rw [kDoes_109] | rw [kDoes_115] | rw [kDoes_116] | rw [kDoes_119] | rw [kDoes_d _ _ hd]
      · first | rw [kDoes_98] | rw [kDoes_109] | rw [kDoes_115] | rw [kDoes_116] | rw [kDoes_119] | rw [kDoes_d _ _ hd]
  · skip
    · refine pw_lookup hX (off := 120) (tgt := 121) dX1_doOrder_1 (by decide) (by rw [nI_toInt hc]; exact (swX4 _).trans (by decide)) (by decide) ?_
      refine pw_aload_n hX rfl dX1_doOrder_121 (q := 122) rfl ?_
      refine pw_aload_n hX rfl dX1_doOrder_122 (q := 123) rfl ?_
      refine pw_getO hX 2 (by decide) fl_X1_19 rfl dX1_doOrder_123 (q := 126) rfl ?_
      refine pw_iconst hX (k := 0) rfl (by decide) dX1_doOrder_126 (q := 127) rfl ?_
      refine pw_ialdG hX (by omega) dX1_doOrder_127 (q := 128) rfl ?_
      repeat first | rw [q_7 ho]
      refine pw_cvI1 hX dX1_doOrder_128 (q := 131) rfl mi_X2_wakeUp ml_X1_80 (rcV ho) ⟨rfl, rfl, by decide, by decide⟩ rfl (Nat.le_of_ble_eq_true rfl) (c_X2_wakeUp ho hP.1) ?_
      refine pw_ireturn hX dX1_doOrder_131 ⟨_, rfl, rfl⟩ ⟨congrArg (fun z => some (Value.int z)) ?_, ?_⟩
      · first | rw [kDoes_98] | rw [kDoes_109] | rw [kDoes_115] | rw [kDoes_116] | rw [kDoes_119] | rw [kDoes_d _ _ hd]
      · first | rw [kDoes_98] | rw [kDoes_109] | rw [kDoes_115] | rw [kDoes_116] | rw [kDoes_119] | rw [kDoes_d _ _ hd]
  · skip
    · refine pw_lookup hX (off := 131) (tgt := 132) dX1_doOrder_1 (by decide) (by rw [nI_toInt hc]; exact (swX4 _).trans (by rw [if_neg hd.1, if_neg hd.2.1, if_neg hd.2.2.1, if_neg hd.2.2.2.1, if_neg hd.2.2.2.2])) (by decide) ?_
      refine pw_aload_n hX rfl dX1_doOrder_132 (q := 133) rfl ?_
      refine pw_aload_n hX rfl dX1_doOrder_133 (q := 134) rfl ?_
      refine pw_getO hX 2 (by decide) fl_X1_19 rfl dX1_doOrder_134 (q := 137) rfl ?_
      refine pw_iconst hX (k := 0) rfl (by decide) dX1_doOrder_137 (q := 138) rfl ?_
      refine pw_ialdG hX (by omega) dX1_doOrder_138 (q := 139) rfl ?_
      repeat first | rw [q_7 ho]
      refine pw_cvI1 hX dX1_doOrder_139 (q := 142) rfl mi_X2_letGoBy ml_X1_83 (rcV ho) ⟨rfl, rfl, by decide, by decide⟩ rfl (Nat.le_of_ble_eq_true rfl) (c_X2_letGoBy ho hP) ?_
      refine pw_ireturn hX dX1_doOrder_142 ⟨_, rfl, rfl⟩ ⟨congrArg (fun z => some (Value.int z)) ?_, ?_⟩
      · first | rw [kDoes_98] | rw [kDoes_109] | rw [kDoes_115] | rw [kDoes_116] | rw [kDoes_119] | rw [kDoes_d _ _ hd]
      · first | rw [kDoes_98] | rw [kDoes_109] | rw [kDoes_115] | rw [kDoes_116] | rw [kDoes_119] | rw [kDoes_d _ _ hd]
abbrev rm_X1_tryOrder : Room := { frames := 6, cells := 0, slots := 0, locals := 142 }
set_option maxHeartbeats 800000 in
set_option maxRecDepth 20000 in
theorem c_X1_tryOrder {l : Launch} {g : Geo} {w : WD} {O V : Nat → Nat → Nat} {o : Nat} {s e : Nat} (ho : o < 7) (hP : bP V) (hc2 : ∀ i, i < 7 → (V 2 i + 1) * 8 + i < 2 ^ 30) (hse : s ≤ e) (he : e < 60) (hT : ∀ j, j < 60 → O 1 j < 65536) : CtI l g yX1_tryOrder cX1_tryOrder 4 (some .int) rm_X1_tryOrder [.ref (g_ad g 7 0), .int (nI s), .int (nI e), .ref (g_ad g o 0)] (wO (oW w O) o V) (nI (tO V O s e)) (wO (oW w (vA O 2 (rAll (O 1) s e (O 2)).2.2.2.2)) o (tOV V O s e)) := by
  refine ct_of mi_X1_tryOrder.2.2.2.2.2 ⟨rfl, rfl⟩ (List.forall_mem_cons.mpr ⟨rfl, List.forall_mem_cons.mpr ⟨rfl, List.forall_mem_cons.mpr ⟨rfl, List.forall_mem_cons.mpr ⟨rfl, fun _ h => absurd h List.not_mem_nil⟩⟩⟩⟩) (Nat.le_of_ble_eq_true rfl) (fun P hX => ?_)
  replace hX : Gd l g RX1 cX1_tryOrder rm_X1_tryOrder 4 (some .int) _ _ P := hX
  show P (wO (oW w O) o V) 0 [some (.ref (g_ad g 7 0)), some (.int (nI s)), some (.int (nI e)), some (.ref (g_ad g o 0))] []
  have hcs := hT s (by omega)
  refine pw_aload_n hX rfl dX1_tryOrder_0 (q := 1) rfl ?_
  refine pw_iload_n hX rfl dX1_tryOrder_1 (q := 2) rfl ?_
  refine pw_iload_n hX rfl dX1_tryOrder_2 (q := 3) rfl ?_
  refine pw_cvI2 hX dX1_tryOrder_3 (q := 6) rfl mi_X1_readNumbers ml_X1_40 rcO ⟨rfl, rfl, by decide, by decide⟩ rfl (Nat.le_of_ble_eq_true rfl) ((c_X1_readNumbers hse he hT).q ho) ?_
  refine pw_ifB_ne hX (tgt := 11) dX1_tryOrder_6 (q := 9) rfl (by decide) (fun h_6 => ?_) (fun h_6 => ?_)
  · refine pw_aload_n hX rfl dX1_tryOrder_11 (q := 12) rfl ?_
    refine pw_aload_n hX rfl dX1_tryOrder_12 (q := 13) rfl ?_
    refine pw_getO hX 0 (by decide) fl_X1_9 rfl dX1_tryOrder_13 (q := 16) rfl ?_
    refine pw_iload_n hX rfl dX1_tryOrder_16 (q := 17) rfl ?_
    refine pw_caldG hX (by omega) dX1_tryOrder_17 (q := 18) rfl ?_
    repeat first | rw [q_7 ho] | rw [vA2_1]
    refine pw_aload_n hX rfl dX1_tryOrder_18 (q := 19) rfl ?_
    refine pw_cvI2 hX dX1_tryOrder_19 (q := 22) rfl mi_X1_namesExist ml_X1_44 rcO ⟨rfl, rfl, by decide, by decide⟩ rfl (Nat.le_of_ble_eq_true rfl) (c_X1_namesExist ho hP.1 (by omega)) ?_
    rw [vA2_2]
    refine pw_ifB_ne hX (tgt := 27) dX1_tryOrder_22 (q := 25) rfl (by decide) (fun h_22 => ?_) (fun h_22 => ?_)
    · refine pw_aload_n hX rfl dX1_tryOrder_27 (q := 28) rfl ?_
      refine pw_aload_n hX rfl dX1_tryOrder_28 (q := 29) rfl ?_
      refine pw_getO hX 0 (by decide) fl_X1_9 rfl dX1_tryOrder_29 (q := 32) rfl ?_
      refine pw_iload_n hX rfl dX1_tryOrder_32 (q := 33) rfl ?_
      refine pw_caldG hX (by omega) dX1_tryOrder_33 (q := 34) rfl ?_
      repeat first | rw [q_7 ho] | rw [vA2_1]
      refine pw_aload_n hX rfl dX1_tryOrder_34 (q := 35) rfl ?_
      refine pw_cvI2 hX dX1_tryOrder_35 (q := 38) rfl mi_X1_doOrder ml_X1_48 rcO ⟨rfl, rfl, by decide, by decide⟩ rfl (Nat.le_of_ble_eq_true rfl) (c_X1_doOrder ho hP hc2 (by omega)) ?_
      rw [vA2_2]
      refine pw_if_ge hX (tgt := 45) dX1_tryOrder_38 (q := 41) rfl (by decide) (fun h_38 => ?_) (fun h_38 => ?_)
      · refine pw_iconst hX (k := 0) rfl (by decide) dX1_tryOrder_45 (q := 46) rfl ?_
        refine pw_ireturn hX dX1_tryOrder_46 ⟨_, rfl, rfl⟩ ⟨congrArg (fun z => some (Value.int z)) ?_, ?_⟩
        · first | (rw [tO, if_pos h_6, if_pos h_22, if_neg (Int32.not_lt.mpr h_38)]; done) | (rw [tO, if_pos h_6, if_pos h_22, if_pos (Int32.not_le.mp h_38)]; done)
        · rw [tOV, if_pos ⟨h_6, h_22⟩]
      · refine pw_iconst hX (k := 3) rfl (by decide) dX1_tryOrder_41 (q := 42) rfl ?_
        refine pw_goto hX (tgt := 46) dX1_tryOrder_42 (by decide) ?_
        refine pw_ireturn hX dX1_tryOrder_46 ⟨_, rfl, rfl⟩ ⟨congrArg (fun z => some (Value.int z)) ?_, ?_⟩
        · first | (rw [tO, if_pos h_6, if_pos h_22, if_neg (Int32.not_lt.mpr h_38)]; done) | (rw [tO, if_pos h_6, if_pos h_22, if_pos (Int32.not_le.mp h_38)]; done)
        · rw [tOV, if_pos ⟨h_6, h_22⟩]
    · refine pw_iconst hX (k := 2) rfl (by decide) dX1_tryOrder_25 (q := 26) rfl ?_
      refine pw_ireturn hX dX1_tryOrder_26 ⟨_, rfl, rfl⟩ ⟨congrArg (fun z => some (Value.int z)) ?_, ?_⟩
      · rw [tO, if_pos h_6, if_neg (by rw [h_22]; decide)]
      · rw [tOV, if_neg (fun z => by rw [h_22] at z; exact absurd z.2 (by decide))]
  · refine pw_iconst hX (k := 1) rfl (by decide) dX1_tryOrder_9 (q := 10) rfl ?_
    refine pw_ireturn hX dX1_tryOrder_10 ⟨_, rfl, rfl⟩ ⟨congrArg (fun z => some (Value.int z)) ?_, ?_⟩
    · rw [tO, if_neg (by rw [h_6]; decide)]
    · rw [tOV, if_neg (fun z => by rw [h_6] at z; exact absurd z.1 (by decide))]
abbrev rm_X1_setFault : Room := { frames := 0, cells := 0, slots := 0, locals := 0 }
set_option maxHeartbeats 800000 in
set_option maxRecDepth 20000 in
theorem c_X1_setFault {l : Launch} {g : Geo} {w : WD} {O : Nat → Nat → Nat} {p r : Nat}  : CtV l g yX1_setFault cX1_setFault 3 none rm_X1_setFault [.ref (g_ad g 7 0), .int (nI p), .int (nI r)] (oW w O) (oW w (kSF O p r)) := by
  refine ct_of mi_X1_setFault.2.2.2.2.2 ⟨rfl, rfl⟩ (List.forall_mem_cons.mpr ⟨rfl, List.forall_mem_cons.mpr ⟨rfl, List.forall_mem_cons.mpr ⟨rfl, fun _ h => absurd h List.not_mem_nil⟩⟩⟩) (Nat.le_of_ble_eq_true rfl) (fun P hX => ?_)
  replace hX : Gd l g RX1 cX1_setFault rm_X1_setFault 3 none _ _ P := hX
  show P (oW w O) 0 [some (.ref (g_ad g 7 0)), some (.int (nI p)), some (.int (nI r))] []
  refine pw_aload_n hX rfl dX1_setFault_0 (q := 1) rfl ?_
  refine pw_iload_n hX rfl dX1_setFault_1 (q := 2) rfl ?_
  refine pw_putO hX 4 (by decide) fl_X1_26 dX1_setFault_2 (q := 5) rfl ?_
  repeat first | rw [oW_7] | rw [oW_A] | rw [vA_vU]
  refine pw_aload_n hX rfl dX1_setFault_5 (q := 6) rfl ?_
  refine pw_iload_n hX rfl dX1_setFault_6 (q := 7) rfl ?_
  refine pw_putO hX 5 (by decide) fl_X1_29 dX1_setFault_7 (q := 10) rfl ?_
  repeat first | rw [oW_7] | rw [oW_A] | rw [vA_vU]
  refine pw_return hX dX1_setFault_10 rfl ⟨rfl, ?_⟩
  rfl
