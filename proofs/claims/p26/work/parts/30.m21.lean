abbrev rm_X3_entryOf : Room := { frames := 2, cells := 0, slots := 0, locals := 44 }
set_option maxHeartbeats 800000 in
set_option maxRecDepth 20000 in
theorem c_X3_entryOf {l : Launch} {g : Geo} {w : WD} {v t a : Int32} (hV : bV (w.1 0)) : CtI l g yX3_entryOf cX3_entryOf 6 (some .int) rm_X3_entryOf [.ref (g_ad g 10 0), .int v, .int t, .int a] (w) (qEO (w.1 0) v t a) (w) := by
  refine ct_of mi_X3_entryOf.2.2.2.2.2 ⟨rfl, rfl⟩ (List.forall_mem_cons.mpr ⟨rfl, List.forall_mem_cons.mpr ⟨rfl, List.forall_mem_cons.mpr ⟨rfl, List.forall_mem_cons.mpr ⟨rfl, fun _ h => absurd h List.not_mem_nil⟩⟩⟩⟩) (Nat.le_of_ble_eq_true rfl) (fun P hX => ?_)
  replace hX : Gd l g RX3 cX3_entryOf rm_X3_entryOf 6 (some .int) _ _ P := hX
  show P (w) 0 [some (.ref (g_ad g 10 0)), some (.int v), some (.int t), some (.int a), none, none] []
  refine pw_aload_n hX rfl dX3_entryOf_0 (q := 1) rfl ?_
  refine pw_getR hX 0 (by decide) fl_X3_10 rfl dX3_entryOf_1 (q := 4) rfl ?_
  refine pw_iload_n hX rfl dX3_entryOf_4 (q := 5) rfl ?_
  refine pw_cvI1 hX dX3_entryOf_5 (q := 8) rfl mi_X2_has ml_X3_57 (rcV (show 0 < 7 by decide)) ⟨rfl, rfl, by decide, by decide⟩ rfl (Nat.le_of_ble_eq_true rfl) (c_X2_has h07 hV).r ?_
  refine pw_ifB_eq hX (tgt := 28) dX3_entryOf_8 (q := 11) rfl (by decide) (fun h_8 => ?_) (fun h_8 => ?_)
  · have hz : ¬ (hasN (w.1 0 0 0) v = true ∧ hasN 12 t = true ∧ inN 0 7 a = true) := fun z => by rw [h_8] at z; exact absurd z.1 (by decide)
    refine pw_ldc hX cn_X3_61 dX3_entryOf_28 (q := 30) rfl ?_
    refine pw_ireturn hX dX3_entryOf_30 ⟨_, rfl, rfl⟩ ⟨congrArg (fun z => some (Value.int z)) ?_, ?_⟩
    · rw [qEO, if_neg hz]
    · rfl
  · obtain ⟨i, hi, rfl⟩ := hasN_of (bV_0 hV) h_8
    have hx : ix (nI i) = i := ix_nI (by have := hV.2.2.2.1; omega)
    have h7 := hV.2.2.2.1
    refine pw_iload_n hX rfl dX3_entryOf_11 (q := 12) rfl ?_
    refine pw_csI1 hX dX3_entryOf_12 (q := 15) rfl mi_X3_isTopic ml_X3_96 ⟨rfl, rfl, by decide, by decide⟩ rfl (Nat.le_of_ble_eq_true rfl) (c_X3_isTopic) ?_
    refine pw_ifB_eq hX (tgt := 28) dX3_entryOf_15 (q := 18) rfl (by decide) (fun h_15 => ?_) (fun h_15 => ?_)
    · have hz : ¬ (hasN (w.1 0 0 0) (nI i) = true ∧ hasN 12 t = true ∧ inN 0 7 a = true) := fun z => by rw [h_15] at z; exact absurd z.2.1 (by decide)
      refine pw_ldc hX cn_X3_61 dX3_entryOf_28 (q := 30) rfl ?_
      refine pw_ireturn hX dX3_entryOf_30 ⟨_, rfl, rfl⟩ ⟨congrArg (fun z => some (Value.int z)) ?_, ?_⟩
      · rw [qEO, if_neg hz]
      · rfl
    · obtain ⟨j, hj, rfl⟩ := hasN_of (by decide) h_15
      have hxj : ix (nI j) = j := ix_nI (by omega)
      refine pw_iload_n hX rfl dX3_entryOf_18 (q := 19) rfl ?_
      refine pw_if_lt hX (tgt := 28) dX3_entryOf_19 (q := 22) rfl (by decide) (fun h_19 => ?_) (fun h_19 => ?_)
      · have hz : ¬ (hasN (w.1 0 0 0) (nI i) = true ∧ hasN 12 (nI j) = true ∧ inN 0 7 a = true) := fun z => by rw [inN_lo0 h_19] at z; exact absurd z.2.2 (by decide)
        refine pw_ldc hX cn_X3_61 dX3_entryOf_28 (q := 30) rfl ?_
        refine pw_ireturn hX dX3_entryOf_30 ⟨_, rfl, rfl⟩ ⟨congrArg (fun z => some (Value.int z)) ?_, ?_⟩
        · rw [qEO, if_neg hz]
        · rfl
      · refine pw_iload_n hX rfl dX3_entryOf_22 (q := 23) rfl ?_
        refine pw_bipush hX (k := 7) (by decide) dX3_entryOf_23 (q := 25) rfl ?_
        refine pw_icmp_le hX (tgt := 31) dX3_entryOf_25 (q := 28) rfl (by decide) (fun h_25 => ?_) (fun h_25 => ?_)
        · obtain ⟨k, -, hk, rfl⟩ := inN_of (by decide) (inN_ok0 (by decide) h_19 (Int32.not_lt.mpr h_25))
          have hc : (hasN (w.1 0 0 0) (nI i) = true ∧ hasN 12 (nI j) = true ∧ inN 0 7 (nI k) = true) := ⟨h_8, h_15, by rw [inN_nI (by omega)]; exact decide_eq_true ⟨Nat.zero_le _, hk⟩⟩
          have hxk : ix (nI k) = k := ix_nI (by omega)
          refine pw_iload_n hX rfl dX3_entryOf_31 (q := 32) rfl ?_
          refine pw_iload_n hX rfl dX3_entryOf_32 (q := 33) rfl ?_
          refine pw_csI2 hX dX3_entryOf_33 (q := 36) rfl mi_X3_place ml_X3_99 ⟨rfl, rfl, by decide, by decide⟩ rfl (Nat.le_of_ble_eq_true rfl) (c_X3_place) ?_
          refine pw_istore hX (by decide) dX3_entryOf_36 (q := 38) rfl ?_
          refine pw_aload_n hX rfl dX3_entryOf_38 (q := 39) rfl ?_
          refine pw_getR hX 0 (by decide) fl_X3_10 rfl dX3_entryOf_39 (q := 42) rfl ?_
          refine pw_getVN hX (show 0 < 7 by decide) 8 (by decide) fn_X3_102 rfl dX3_entryOf_42 (q := 45) rfl ?_
          refine pw_iload hX rfl dX3_entryOf_45 (q := 47) rfl ?_
          refine pw_ialdV hX (show 0 < 7 by decide) 5 (by decide) (show _ < 84 by omega) dX3_entryOf_47 (q := 48) rfl ?_
          refine pw_ifN_ne hX (by first | omega | exact bV_0 hV | exact bV7 hV (by decide) (by omega) | exact bV84 hV (by decide) (by omega) | exact bV12 hV (by omega) | exact bV_1 hV | exact bV_2 hV | exact Nat.lt_trans (bits_lt _ 12) (by decide)) (tgt := 54) dX3_entryOf_48 (q := 51) rfl (by decide) (fun h_48 => ?_) (fun h_48 => ?_)
          · refine pw_aload_n hX rfl dX3_entryOf_54 (q := 55) rfl ?_
            refine pw_getR hX 0 (by decide) fl_X3_10 rfl dX3_entryOf_55 (q := 58) rfl ?_
            refine pw_iload hX rfl dX3_entryOf_58 (q := 60) rfl ?_
            refine pw_cvI1 hX dX3_entryOf_60 (q := 63) rfl mi_X2_isTomb ml_X3_105 (rcV (show 0 < 7 by decide)) ⟨rfl, rfl, by decide, by decide⟩ rfl (Nat.le_of_ble_eq_true rfl) (c_X2_isTomb h07 hV (by omega)).r ?_
            refine pw_istore hX (by decide) dX3_entryOf_63 (q := 65) rfl ?_
            refine pw_iload_n hX rfl dX3_entryOf_65 (q := 66) rfl ?_
            rcases (show k = 0 ∨ k = 1 ∨ k = 2 ∨ k = 3 ∨ k = 4 ∨ k = 5 ∨ k = 6 ∨ k = 7 by omega) with rfl | rfl | rfl | rfl | rfl | rfl | rfl | rfl
            · skip
              · refine pw_tabIn hX (tgt := 108) (off := 42) dX3_entryOf_66 (by decide) (by decide) (by decide) (by decide) ?_
                refine pw_iload hX rfl dX3_entryOf_108 (q := 110) rfl ?_
                refine pw_ifB_eq hX (tgt := 117) dX3_entryOf_110 (q := 113) rfl (by decide) (fun h_110 => ?_) (fun h_110 => ?_)
                · refine pw_iconst hX (k := 0) rfl (by decide) dX3_entryOf_117 (q := 118) rfl ?_
                  refine pw_ireturn hX dX3_entryOf_118 ⟨_, rfl, rfl⟩ ⟨congrArg (fun z => some (Value.int z)) ?_, ?_⟩
                  · rw [qEO, if_pos hc, hx, hxj, hxk, if_neg h_48, h_110]; rfl
                  · rfl
                · refine pw_iconst hX (k := 1) rfl (by decide) dX3_entryOf_113 (q := 114) rfl ?_
                  refine pw_goto hX (tgt := 118) dX3_entryOf_114 (by decide) ?_
                  refine pw_ireturn hX dX3_entryOf_118 ⟨_, rfl, rfl⟩ ⟨congrArg (fun z => some (Value.int z)) ?_, ?_⟩
                  · rw [qEO, if_pos hc, hx, hxj, hxk, if_neg h_48, h_110]; rfl
                  · rfl
            · skip
              · refine pw_tabIn hX (tgt := 119) (off := 53) dX3_entryOf_66 (by decide) (by decide) (by decide) (by decide) ?_
                refine pw_aload_n hX rfl dX3_entryOf_119 (q := 120) rfl ?_
                refine pw_getR hX 0 (by decide) fl_X3_10 rfl dX3_entryOf_120 (q := 123) rfl ?_
                refine pw_getVN hX (show 0 < 7 by decide) 8 (by decide) fn_X3_102 rfl dX3_entryOf_123 (q := 126) rfl ?_
                refine pw_iload hX rfl dX3_entryOf_126 (q := 128) rfl ?_
                refine pw_ialdV hX (show 0 < 7 by decide) 5 (by decide) (show _ < 84 by omega) dX3_entryOf_128 (q := 129) rfl ?_
                refine pw_bipush hX (k := 8) (by decide) dX3_entryOf_129 (q := 131) rfl ?_
                refine pw_idivN hX (by first | omega | exact bV_0 hV | exact bV7 hV (by decide) (by omega) | exact bV84 hV (by decide) (by omega) | exact bV12 hV (by omega) | exact bV_1 hV | exact bV_2 hV | exact Nat.lt_trans (bits_lt _ 12) (by decide)) (by decide) (by decide) dX3_entryOf_131 (q := 132) rfl ?_
                refine pw_ireturn hX dX3_entryOf_132 ⟨_, rfl, rfl⟩ ⟨congrArg (fun z => some (Value.int z)) ?_, ?_⟩
                · rw [qEO, if_pos hc, hx, hxj, hxk, if_neg h_48]; rfl
                · rfl
            · skip
              · refine pw_tabIn hX (tgt := 133) (off := 67) dX3_entryOf_66 (by decide) (by decide) (by decide) (by decide) ?_
                refine pw_aload_n hX rfl dX3_entryOf_133 (q := 134) rfl ?_
                refine pw_getR hX 0 (by decide) fl_X3_10 rfl dX3_entryOf_134 (q := 137) rfl ?_
                refine pw_iload hX rfl dX3_entryOf_137 (q := 139) rfl ?_
                refine pw_cvI1 hX dX3_entryOf_139 (q := 142) rfl mi_X2_author ml_X3_108 (rcV (show 0 < 7 by decide)) ⟨rfl, rfl, by decide, by decide⟩ rfl (Nat.le_of_ble_eq_true rfl) (c_X2_author h07 hV (by omega)).r ?_
                refine pw_ireturn hX dX3_entryOf_142 ⟨_, rfl, rfl⟩ ⟨congrArg (fun z => some (Value.int z)) ?_, ?_⟩
                · rw [qEO, if_pos hc, hx, hxj, hxk, if_neg h_48]; rfl
                · rfl
            · skip
              · refine pw_tabIn hX (tgt := 143) (off := 77) dX3_entryOf_66 (by decide) (by decide) (by decide) (by decide) ?_
                refine pw_iload hX rfl dX3_entryOf_143 (q := 145) rfl ?_
                refine pw_ifB_eq hX (tgt := 153) dX3_entryOf_145 (q := 148) rfl (by decide) (fun h_145 => ?_) (fun h_145 => ?_)
                · refine pw_aload_n hX rfl dX3_entryOf_153 (q := 154) rfl ?_
                  refine pw_getR hX 0 (by decide) fl_X3_10 rfl dX3_entryOf_154 (q := 157) rfl ?_
                  refine pw_getVN hX (show 0 < 7 by decide) 10 (by decide) fn_X3_111 rfl dX3_entryOf_157 (q := 160) rfl ?_
                  refine pw_iload hX rfl dX3_entryOf_160 (q := 162) rfl ?_
                  refine pw_ialdV hX (show 0 < 7 by decide) 7 (by decide) (show _ < 84 by omega) dX3_entryOf_162 (q := 163) rfl ?_
                  refine pw_ireturn hX dX3_entryOf_163 ⟨_, rfl, rfl⟩ ⟨congrArg (fun z => some (Value.int z)) ?_, ?_⟩
                  · rw [qEO, if_pos hc, hx, hxj, hxk, if_neg h_48, h_145]; rfl
                  · rfl
                · refine pw_ldc hX cn_X3_84 dX3_entryOf_148 (q := 150) rfl ?_
                  refine pw_goto hX (tgt := 163) dX3_entryOf_150 (by decide) ?_
                  refine pw_ireturn hX dX3_entryOf_163 ⟨_, rfl, rfl⟩ ⟨congrArg (fun z => some (Value.int z)) ?_, ?_⟩
                  · rw [qEO, if_pos hc, hx, hxj, hxk, if_neg h_48, h_145]; rfl
                  · rfl
            · skip
              · refine pw_tabIn hX (tgt := 164) (off := 98) dX3_entryOf_66 (by decide) (by decide) (by decide) (by decide) ?_
                refine pw_iload hX rfl dX3_entryOf_164 (q := 166) rfl ?_
                refine pw_ifB_eq hX (tgt := 174) dX3_entryOf_166 (q := 169) rfl (by decide) (fun h_166 => ?_) (fun h_166 => ?_)
                · refine pw_aload_n hX rfl dX3_entryOf_174 (q := 175) rfl ?_
                  refine pw_getR hX 0 (by decide) fl_X3_10 rfl dX3_entryOf_175 (q := 178) rfl ?_
                  refine pw_getVN hX (show 0 < 7 by decide) 9 (by decide) fn_X3_114 rfl dX3_entryOf_178 (q := 181) rfl ?_
                  refine pw_iload hX rfl dX3_entryOf_181 (q := 183) rfl ?_
                  refine pw_ialdV hX (show 0 < 7 by decide) 6 (by decide) (show _ < 84 by omega) dX3_entryOf_183 (q := 184) rfl ?_
                  refine pw_ireturn hX dX3_entryOf_184 ⟨_, rfl, rfl⟩ ⟨congrArg (fun z => some (Value.int z)) ?_, ?_⟩
                  · rw [qEO, if_pos hc, hx, hxj, hxk, if_neg h_48, h_166]; rfl
                  · rfl
                · refine pw_ldc hX cn_X3_84 dX3_entryOf_169 (q := 171) rfl ?_
                  refine pw_goto hX (tgt := 184) dX3_entryOf_171 (by decide) ?_
                  refine pw_ireturn hX dX3_entryOf_184 ⟨_, rfl, rfl⟩ ⟨congrArg (fun z => some (Value.int z)) ?_, ?_⟩
                  · rw [qEO, if_pos hc, hx, hxj, hxk, if_neg h_48, h_166]; rfl
                  · rfl
            · skip
              · refine pw_tabIn hX (tgt := 185) (off := 119) dX3_entryOf_66 (by decide) (by decide) (by decide) (by decide) ?_
                refine pw_iload hX rfl dX3_entryOf_185 (q := 187) rfl ?_
                refine pw_ifB_eq hX (tgt := 203) dX3_entryOf_187 (q := 190) rfl (by decide) (fun h_187 => ?_) (fun h_187 => ?_)
                · refine pw_ldc hX cn_X3_84 dX3_entryOf_203 (q := 205) rfl ?_
                  refine pw_ireturn hX dX3_entryOf_205 ⟨_, rfl, rfl⟩ ⟨congrArg (fun z => some (Value.int z)) ?_, ?_⟩
                  · rw [qEO, if_pos hc, hx, hxj, hxk, if_neg h_48, h_187]; rfl
                  · rfl
                · refine pw_aload_n hX rfl dX3_entryOf_190 (q := 191) rfl ?_
                  refine pw_getR hX 0 (by decide) fl_X3_10 rfl dX3_entryOf_191 (q := 194) rfl ?_
                  refine pw_getVN hX (show 0 < 7 by decide) 11 (by decide) fn_X3_117 rfl dX3_entryOf_194 (q := 197) rfl ?_
                  refine pw_iload hX rfl dX3_entryOf_197 (q := 199) rfl ?_
                  refine pw_ialdV hX (show 0 < 7 by decide) 8 (by decide) (show _ < 84 by omega) dX3_entryOf_199 (q := 200) rfl ?_
                  refine pw_goto hX (tgt := 205) dX3_entryOf_200 (by decide) ?_
                  refine pw_ireturn hX dX3_entryOf_205 ⟨_, rfl, rfl⟩ ⟨congrArg (fun z => some (Value.int z)) ?_, ?_⟩
                  · rw [qEO, if_pos hc, hx, hxj, hxk, if_neg h_48, h_187]; rfl
                  · rfl
            · skip
              · refine pw_tabIn hX (tgt := 206) (off := 140) dX3_entryOf_66 (by decide) (by decide) (by decide) (by decide) ?_
                refine pw_iload hX rfl dX3_entryOf_206 (q := 208) rfl ?_
                refine pw_ifB_eq hX (tgt := 224) dX3_entryOf_208 (q := 211) rfl (by decide) (fun h_208 => ?_) (fun h_208 => ?_)
                · refine pw_ldc hX cn_X3_84 dX3_entryOf_224 (q := 226) rfl ?_
                  refine pw_ireturn hX dX3_entryOf_226 ⟨_, rfl, rfl⟩ ⟨congrArg (fun z => some (Value.int z)) ?_, ?_⟩
                  · rw [qEO, if_pos hc, hx, hxj, hxk, if_neg h_48, h_208]; rfl
                  · rfl
                · refine pw_aload_n hX rfl dX3_entryOf_211 (q := 212) rfl ?_
                  refine pw_getR hX 0 (by decide) fl_X3_10 rfl dX3_entryOf_212 (q := 215) rfl ?_
                  refine pw_getVN hX (show 0 < 7 by decide) 12 (by decide) fn_X3_120 rfl dX3_entryOf_215 (q := 218) rfl ?_
                  refine pw_iload hX rfl dX3_entryOf_218 (q := 220) rfl ?_
                  refine pw_ialdV hX (show 0 < 7 by decide) 9 (by decide) (show _ < 84 by omega) dX3_entryOf_220 (q := 221) rfl ?_
                  refine pw_goto hX (tgt := 226) dX3_entryOf_221 (by decide) ?_
                  refine pw_ireturn hX dX3_entryOf_226 ⟨_, rfl, rfl⟩ ⟨congrArg (fun z => some (Value.int z)) ?_, ?_⟩
                  · rw [qEO, if_pos hc, hx, hxj, hxk, if_neg h_48, h_208]; rfl
                  · rfl
            · skip
              · refine pw_tabOut hX (tgt := 227) dX3_entryOf_66 (by decide) (by decide) ?_
                refine pw_iload hX rfl dX3_entryOf_227 (q := 229) rfl ?_
                refine pw_ifB_eq hX (tgt := 237) dX3_entryOf_229 (q := 232) rfl (by decide) (fun h_229 => ?_) (fun h_229 => ?_)
                · refine pw_aload_n hX rfl dX3_entryOf_237 (q := 238) rfl ?_
                  refine pw_getR hX 0 (by decide) fl_X3_10 rfl dX3_entryOf_238 (q := 241) rfl ?_
                  refine pw_iload_n hX rfl dX3_entryOf_241 (q := 242) rfl ?_
                  refine pw_iload_n hX rfl dX3_entryOf_242 (q := 243) rfl ?_
                  refine pw_cvI2 hX dX3_entryOf_243 (q := 246) rfl mi_X2_isDead ml_X3_123 (rcV (show 0 < 7 by decide)) ⟨rfl, rfl, by decide, by decide⟩ rfl (Nat.le_of_ble_eq_true rfl) (c_X2_isDead h07 hV (by omega) hj).r ?_
                  refine pw_ifB_eq hX (tgt := 253) dX3_entryOf_246 (q := 249) rfl (by decide) (fun h_246 => ?_) (fun h_246 => ?_)
                  · refine pw_iconst hX (k := 0) rfl (by decide) dX3_entryOf_253 (q := 254) rfl ?_
                    refine pw_ireturn hX dX3_entryOf_254 ⟨_, rfl, rfl⟩ ⟨congrArg (fun z => some (Value.int z)) ?_, ?_⟩
                    · rw [qEO, if_pos hc, hx, hxj, hxk, if_neg h_48, h_229]; first | rfl | (rw [h_246]; rfl)
                    · rfl
                  · refine pw_iconst hX (k := 1) rfl (by decide) dX3_entryOf_249 (q := 250) rfl ?_
                    refine pw_goto hX (tgt := 254) dX3_entryOf_250 (by decide) ?_
                    refine pw_ireturn hX dX3_entryOf_254 ⟨_, rfl, rfl⟩ ⟨congrArg (fun z => some (Value.int z)) ?_, ?_⟩
                    · rw [qEO, if_pos hc, hx, hxj, hxk, if_neg h_48, h_229]; first | rfl | (rw [h_246]; rfl)
                    · rfl
                · refine pw_ldc hX cn_X3_84 dX3_entryOf_232 (q := 234) rfl ?_
                  refine pw_goto hX (tgt := 254) dX3_entryOf_234 (by decide) ?_
                  refine pw_ireturn hX dX3_entryOf_254 ⟨_, rfl, rfl⟩ ⟨congrArg (fun z => some (Value.int z)) ?_, ?_⟩
                  · rw [qEO, if_pos hc, hx, hxj, hxk, if_neg h_48, h_229]; first | rfl | (rw [h_246]; rfl)
                  · rfl
          · refine pw_ldc hX cn_X3_84 dX3_entryOf_51 (q := 53) rfl ?_
            refine pw_ireturn hX dX3_entryOf_53 ⟨_, rfl, rfl⟩ ⟨congrArg (fun z => some (Value.int z)) ?_, ?_⟩
            · rw [qEO, if_pos hc, hx, hxj, if_pos h_48]
            · rfl
        · have hz : ¬ (hasN (w.1 0 0 0) (nI i) = true ∧ hasN 12 (nI j) = true ∧ inN 0 7 a = true) := fun z => by rw [inN_hi (by decide) (Int32.not_le.mp h_25)] at z; exact absurd z.2.2 (by decide)
          refine pw_ldc hX cn_X3_61 dX3_entryOf_28 (q := 30) rfl ?_
          refine pw_ireturn hX dX3_entryOf_30 ⟨_, rfl, rfl⟩ ⟨congrArg (fun z => some (Value.int z)) ?_, ?_⟩
          · rw [qEO, if_neg hz]
          · rfl
