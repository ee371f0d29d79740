abbrev rm_L_acts : Room := { frames := 7, cells := 1, slots := 24, locals := 175 }
set_option maxHeartbeats 2000000 in
set_option maxRecDepth 20000 in
theorem ac_108 {l : Launch} {g : Geo} {w : WD} {N G y z v u t : Nat} {P : PT} (hX : Gd l g RL cL_acts rm_L_acts 17 (some .boolean) (Fn (N + 1) (G + 12)) (fun _ _ _ => False) P) (hW : WJ w N G 5) (hN : N ≤ 1000) (hG : G ≤ 2 ^ 20) (hv : v < 5) (ht : t < 3) (hz : z < 2 ^ 31) : P w 108 [some (.ref (g_ad g 10 0)), some (.int (nI (y))), some (.int (nI (z))), some (.int (nI (v))), some (.int (nI (u))), some (.int (nI (t))), some (.int (nI (w.1 0 2 v))), none, none, none, none, none, none, none, none, none, none] [] := by
  have hJ := hW.2.2.1
  have h5 : w.1 0 0 0 = 5 := hW.2.2.2
  have hn : w.1 0 0 0 ≤ 7 := by omega
  have hV : bV (w.1 0) := (J_b hJ (by omega)).1
  have hs4 := hJ.2.2.2.2.1 v (by omega)
  have hp2 : 2 ^ v < 2 ^ 31 := Nat.pow_lt_pow_right (by decide) (by omega)
  refine pw_aload_n hX rfl dL_acts_108 (q := 109) rfl ?_
  refine pw_iload_n hX rfl dL_acts_109 (q := 110) rfl ?_
  refine pw_iload hX rfl dL_acts_110 (q := 112) rfl ?_
  refine pw_iload_n hX rfl dL_acts_112 (q := 113) rfl ?_
  refine pw_sipush hX (k := 128) (by decide) dL_acts_113 (q := 116) rfl ?_
  refine pw_idivN hX (by first | omega | assumption) (by decide) (by decide) dL_acts_116 (q := 117) rfl ?_
  refine pw_bipush hX (k := 100) (by decide) dL_acts_117 (q := 119) rfl ?_
  refine pw_iremN hX (by first | omega | assumption) (by decide) (by decide) dL_acts_119 (q := 120) rfl ?_
  refine jn (A := ∀ k, k ≤ 2 → P w 142 [some (.ref (g_ad g 10 0)), some (.int (nI (y))), some (.int (nI (z))), some (.int (nI (v))), some (.int (nI (u))), some (.int (nI (t))), some (.int (nI (w.1 0 2 v))), none, none, none, none, none, none, none, none, none, none] [.int (nI k), .int (nI (z / 128 % 100)), .int (nI t), .int (nI v), .ref (g_ad g 10 0)]) ?_ (fun J120 => ?_)
  · intro k hk
    by_cases hs : w.1 0 1 v = 0
    · skip
      refine pw_cvI4 hX dL_acts_142 (q := 145) rfl mi_X3_tell ml_L_39 rcR ⟨rfl, rfl, by decide, by decide⟩ rfl (Nat.le_of_ble_eq_true rfl) (c_X3_tell hW.1 hV) ?_
      rw [kMR_at hn (by omega) (by omega) (by omega) hk, if_pos hs]
      have hr := WJ_rec (V' := kMr (w.1 0) v t (z / 128 % 100) k) (N' := N + 1) (G' := G + 12) (n' := 5) hW (J_le (J_Mr hJ (by omega) (by omega) (by omega) hk (by omega)) (Nat.le_refl _) (show G ≤ G + 12 by omega)) (by rw [(Mr_s (w.1 0) hk).1]; exact h5) (nI (w.1 0 2 v + 1))
      obtain ⟨hS1, hV1⟩ := hr
      try dsimp only
      revert hS1 hV1
      generalize Rec (wO (Prep w) 0 (kMr (w.1 0) v t (z / 128 % 100) k)) (nI (w.1 0 2 v + 1)) = W1
      intro hS1 hV1
      have hVW : bV (W1.1 0) := (J_b hS1.2.2.1 (by omega)).1
      have hW5 : W1.1 0 0 0 = 5 := hS1.2.2.2
      obtain ⟨q0, q5, q6⟩ := Mr_s (w.1 0) (v := v) (t := t) (a := z / 128 % 100) hk
      have hn1 : kMr (w.1 0) v t (z / 128 % 100) k 0 0 ≤ 7 := by rw [q0]; exact hn
      have hv1 : v < kMr (w.1 0) v t (z / 128 % 100) k 0 0 := by rw [q0]; omega
      refine pw_istore hX (by decide) dL_acts_145 (q := 147) rfl ?_
      refine pw_iload hX rfl dL_acts_147 (q := 149) rfl ?_
      refine pw_ldc hX cn_L_38 dL_acts_149 (q := 151) rfl ?_
      refine pw_icmp_ne hX (tgt := 171) dL_acts_151 (q := 154) rfl (by decide) (fun h_151 => ?_) (fun h => False.elim (by exact nI_nn (by first | omega | assumption) (by decide) h))
      refine pw_iload hX rfl dL_acts_171 (q := 173) rfl ?_
      refine pw_iload hX rfl dL_acts_173 (q := 175) rfl ?_
      refine pw_iconst hX (k := 1) rfl (by decide) dL_acts_175 (q := 176) rfl ?_
      refine pw_iaddN hX dL_acts_176 (q := 177) rfl ?_
      refine pw_icmp_ne hX (tgt := 207) dL_acts_177 (q := 180) rfl (by decide) (fun h => False.elim (by first | omega | exact absurd h (by decide) | exact h (by decide) | exact h rfl)) (fun h_177 => ?_)
      refine pw_aload_n hX rfl dL_acts_180 (q := 181) rfl ?_
      refine pw_iload_n hX rfl dL_acts_181 (q := 182) rfl ?_
      refine pw_iload hX rfl dL_acts_182 (q := 184) rfl ?_
      refine pw_iconst hX (k := 0) rfl (by decide) dL_acts_184 (q := 185) rfl ?_
      refine pw_cvI3 hX dL_acts_185 (q := 188) rfl mi_X3_entryOf ml_L_9 rcR ⟨rfl, rfl, by decide, by decide⟩ rfl (Nat.le_of_ble_eq_true rfl) (c_X3_entryOf hVW) ?_
      rw [hV1, qEO_0 hn1 hv1 (by omega) (by rw [q5]; omega), q6, bI_f]
      refine pw_ifN_ne hX (by first | omega | assumption) (tgt := 207) dL_acts_188 (q := 191) rfl (by decide) (fun h => False.elim (by first | omega | exact absurd h (by decide) | exact h (by decide) | exact h rfl)) (fun h_188 => ?_)
      refine pw_aload_n hX rfl dL_acts_191 (q := 192) rfl ?_
      refine pw_iload_n hX rfl dL_acts_192 (q := 193) rfl ?_
      refine pw_iload hX rfl dL_acts_193 (q := 195) rfl ?_
      refine pw_iconst hX (k := 2) rfl (by decide) dL_acts_195 (q := 196) rfl ?_
      refine pw_cvI3 hX dL_acts_196 (q := 199) rfl mi_X3_entryOf ml_L_9 rcR ⟨rfl, rfl, by decide, by decide⟩ rfl (Nat.le_of_ble_eq_true rfl) (c_X3_entryOf hVW) ?_
      rw [hV1, qEO_2 hn1 hv1 (by omega) (by rw [q5]; omega), q5]
      refine pw_iload_n hX rfl dL_acts_199 (q := 200) rfl ?_
      refine pw_icmpN_ne hX (by first | omega | assumption) (by first | omega | assumption) (tgt := 207) dL_acts_200 (q := 203) rfl (by decide) (fun h => False.elim (by first | omega | exact absurd h (by decide) | exact h (by decide) | exact h rfl)) (fun h_200 => ?_)
      refine pw_iconst hX (k := 1) rfl (by decide) dL_acts_203 (q := 204) rfl ?_
      refine pw_goto hX (tgt := 208) dL_acts_204 (by decide) ?_
      refine pw_ireturn hX dL_acts_208 ⟨_, rfl, by first | exact bI_nar _ | decide | rfl⟩ ⟨congrArg (fun z => some (Value.int z)) ?_, ?_⟩
      · rfl
      · exact hS1
    · skip
      refine pw_cvI4 hX dL_acts_142 (q := 145) rfl mi_X3_tell ml_L_39 rcR ⟨rfl, rfl, by decide, by decide⟩ rfl (Nat.le_of_ble_eq_true rfl) (c_X3_tell hW.1 hV) ?_
      rw [kMR_at hn (by omega) (by omega) (by omega) hk, if_neg hs]
      have hr := WJ_rec (V' := w.1 0) (N' := N + 1) (G' := G + 12) (n' := 5) hW (J_le hJ (show N ≤ N + 1 by omega) (show G ≤ G + 12 by omega)) (h5) (-1000002)
      obtain ⟨hS1, hV1⟩ := hr
      try dsimp only
      revert hS1 hV1
      generalize Rec (wO (Prep w) 0 (w.1 0)) (-1000002) = W1
      intro hS1 hV1
      have hVW : bV (W1.1 0) := (J_b hS1.2.2.1 (by omega)).1
      have hW5 : W1.1 0 0 0 = 5 := hS1.2.2.2
      refine pw_istore hX (by decide) dL_acts_145 (q := 147) rfl ?_
      refine pw_iload hX rfl dL_acts_147 (q := 149) rfl ?_
      refine pw_ldc hX cn_L_38 dL_acts_149 (q := 151) rfl ?_
      refine pw_icmp_ne hX (tgt := 171) dL_acts_151 (q := 154) rfl (by decide) (fun h => False.elim (by exact h rfl)) (fun h_151 => ?_)
      refine pw_aload_n hX rfl dL_acts_154 (q := 155) rfl ?_
      refine pw_iload_n hX rfl dL_acts_155 (q := 156) rfl ?_
      refine pw_iconst hX (k := 0) rfl (by decide) dL_acts_156 (q := 157) rfl ?_
      refine pw_cvI2 hX dL_acts_157 (q := 160) rfl mi_X3_villagerOf ml_L_19 rcR ⟨rfl, rfl, by decide, by decide⟩ rfl (Nat.le_of_ble_eq_true rfl) (c_X3_villagerOf hVW) ?_
      rw [hV1, qOf_0 hn (by omega)]
      refine pw_ifN_le hX (by first | omega | assumption) (tgt := 167) dL_acts_160 (q := 163) rfl (by decide) (fun h => False.elim (by first | omega | exact absurd h (by decide) | exact h (by decide) | exact h rfl)) (fun h_160 => ?_)
      refine pw_iconst hX (k := 1) rfl (by decide) dL_acts_163 (q := 164) rfl ?_
      refine pw_goto hX (tgt := 208) dL_acts_164 (by decide) ?_
      refine pw_ireturn hX dL_acts_208 ⟨_, rfl, by first | exact bI_nar _ | decide | rfl⟩ ⟨congrArg (fun z => some (Value.int z)) ?_, ?_⟩
      · rfl
      · exact hS1
  · refine pw_iload_n hX rfl dL_acts_120 (q := 121) rfl ?_
    refine pw_sipush hX (k := 16384) (by decide) dL_acts_121 (q := 124) rfl ?_
    refine pw_idivN hX (by first | omega | assumption) (by decide) (by decide) dL_acts_124 (q := 125) rfl ?_
    refine pw_iconst hX (k := 5) rfl (by decide) dL_acts_125 (q := 126) rfl ?_
    refine pw_iremN hX (by first | omega | assumption) (by decide) (by decide) dL_acts_126 (q := 127) rfl ?_
    refine pw_iconst hX (k := 2) rfl (by decide) dL_acts_127 (q := 128) rfl ?_
    refine pw_icmpN_le hX (by first | omega | assumption) (by first | omega | assumption) (tgt := 135) dL_acts_128 (q := 131) rfl (by decide) (fun h_128 => ?_) (fun h_128 => ?_)
    · refine pw_iload_n hX rfl dL_acts_135 (q := 136) rfl ?_
      refine pw_sipush hX (k := 16384) (by decide) dL_acts_136 (q := 139) rfl ?_
      refine pw_idivN hX (by first | omega | assumption) (by decide) (by decide) dL_acts_139 (q := 140) rfl ?_
      refine pw_iconst hX (k := 5) rfl (by decide) dL_acts_140 (q := 141) rfl ?_
      refine pw_iremN hX (by first | omega | assumption) (by decide) (by decide) dL_acts_141 (q := 142) rfl ?_
      exact J120 _ (by omega)
    · refine pw_iconst hX (k := 0) rfl (by decide) dL_acts_131 (q := 132) rfl ?_
      refine pw_goto hX (tgt := 142) dL_acts_132 (by decide) ?_
      exact J120 _ (by omega)
set_option maxHeartbeats 2000000 in
set_option maxRecDepth 20000 in
theorem ac_209 {l : Launch} {g : Geo} {w : WD} {N G y z v u t : Nat} {P : PT} (hX : Gd l g RL cL_acts rm_L_acts 17 (some .boolean) (Fn (N + 1) (G + 12)) (fun _ _ _ => False) P) (hW : WJ w N G 5) (hN : N ≤ 1000) (hG : G ≤ 2 ^ 20) (hv : v < 5) (ht : t < 3) (hz : z < 2 ^ 31) : P w 209 [some (.ref (g_ad g 10 0)), some (.int (nI (y))), some (.int (nI (z))), some (.int (nI (v))), some (.int (nI (u))), some (.int (nI (t))), some (.int (nI (w.1 0 2 v))), none, none, none, none, none, none, none, none, none, none] [] := by
  have hJ := hW.2.2.1
  have h5 : w.1 0 0 0 = 5 := hW.2.2.2
  have hn : w.1 0 0 0 ≤ 7 := by omega
  have hV : bV (w.1 0) := (J_b hJ (by omega)).1
  have hs4 := hJ.2.2.2.2.1 v (by omega)
  have hp2 : 2 ^ v < 2 ^ 31 := Nat.pow_lt_pow_right (by decide) (by omega)
  have hb3 := hJ.2.2.2.1
  have hb1 := hJ.2.1
  refine pw_aload_n hX rfl dL_acts_209 (q := 210) rfl ?_
  refine pw_bipush hX (k := 9) (by decide) dL_acts_210 (q := 212) rfl ?_
  refine pw_cvI1 hX dL_acts_212 (q := 215) rfl mi_X3_count ml_L_15 rcR ⟨rfl, rfl, by decide, by decide⟩ rfl (Nat.le_of_ble_eq_true rfl) (c_X3_count hV) ?_
  rw [qCnt_9]
  refine pw_istore hX (by decide) dL_acts_215 (q := 217) rfl ?_
  by_cases hs : w.1 0 1 v = 0 ∧ kRum (w.1 0) (v * 12 + t) = true
  · skip
    refine pw_aload_n hX rfl dL_acts_217 (q := 218) rfl ?_
    refine pw_iload_n hX rfl dL_acts_218 (q := 219) rfl ?_
    refine pw_iload hX rfl dL_acts_219 (q := 221) rfl ?_
    refine pw_cvI2 hX dL_acts_221 (q := 224) rfl mi_X3_bury ml_L_43 rcR ⟨rfl, rfl, by decide, by decide⟩ rfl (Nat.le_of_ble_eq_true rfl) (c_X3_bury hW.1 hV (J_2 hJ (by omega))) ?_
    rw [kMT_at hn (by omega) (by omega), if_pos hs]
    have hr := WJ_rec (V' := kTb (w.1 0) v t) (N' := N + 1) (G' := G + 12) (n' := 5) hW (J_le (J_Tb hJ (by omega) (by omega) (by omega)) (Nat.le_refl _) (show G ≤ G + 12 by omega)) (by rw [(Tb_s (w.1 0) v t).1]; exact h5) (nI (w.1 0 2 v + 1))
    obtain ⟨hS1, hV1⟩ := hr
    try dsimp only
    revert hS1 hV1
    generalize Rec (wO (Prep w) 0 (kTb (w.1 0) v t)) (nI (w.1 0 2 v + 1)) = W1
    intro hS1 hV1
    have hVW : bV (W1.1 0) := (J_b hS1.2.2.1 (by omega)).1
    have hW5 : W1.1 0 0 0 = 5 := hS1.2.2.2
    obtain ⟨q0, q1, q3, q6, q9, q8⟩ := Tb_s (w.1 0) v t
    have hn1 : kTb (w.1 0) v t 0 0 ≤ 7 := by rw [q0]; exact hn
    have hv1 : v < kTb (w.1 0) v t 0 0 := by rw [q0]; omega
    refine pw_istore hX (by decide) dL_acts_224 (q := 226) rfl ?_
    refine pw_iload hX rfl dL_acts_226 (q := 228) rfl ?_
    refine pw_ldc hX cn_L_38 dL_acts_228 (q := 230) rfl ?_
    refine pw_icmp_ne hX (tgt := 252) dL_acts_230 (q := 233) rfl (by decide) (fun h_230 => ?_) (fun h => False.elim (by exact nI_nn (by first | omega | assumption) (by decide) h))
    refine pw_iload hX rfl dL_acts_252 (q := 254) rfl ?_
    refine pw_iload hX rfl dL_acts_254 (q := 256) rfl ?_
    refine pw_iconst hX (k := 1) rfl (by decide) dL_acts_256 (q := 257) rfl ?_
    refine pw_iaddN hX dL_acts_257 (q := 258) rfl ?_
    refine pw_icmp_ne hX (tgt := 321) dL_acts_258 (q := 261) rfl (by decide) (fun h => False.elim (by first | omega | exact absurd h (by decide) | exact h (by decide) | exact h rfl)) (fun h_258 => ?_)
    refine pw_aload_n hX rfl dL_acts_261 (q := 262) rfl ?_
    refine pw_bipush hX (k := 9) (by decide) dL_acts_262 (q := 264) rfl ?_
    refine pw_cvI1 hX dL_acts_264 (q := 267) rfl mi_X3_count ml_L_15 rcR ⟨rfl, rfl, by decide, by decide⟩ rfl (Nat.le_of_ble_eq_true rfl) (c_X3_count hVW) ?_
    rw [hV1, qCnt_9, q3]
    refine pw_iload hX rfl dL_acts_267 (q := 269) rfl ?_
    refine pw_iconst hX (k := 1) rfl (by decide) dL_acts_269 (q := 270) rfl ?_
    refine pw_iaddN hX dL_acts_270 (q := 271) rfl ?_
    refine pw_icmpN_ne hX (by first | omega | assumption) (by first | omega | assumption) (tgt := 321) dL_acts_271 (q := 274) rfl (by decide) (fun h => False.elim (by first | omega | exact absurd h (by decide) | exact h (by decide) | exact h rfl)) (fun h_271 => ?_)
    refine pw_aload_n hX rfl dL_acts_274 (q := 275) rfl ?_
    refine pw_iload_n hX rfl dL_acts_275 (q := 276) rfl ?_
    refine pw_iload hX rfl dL_acts_276 (q := 278) rfl ?_
    refine pw_iconst hX (k := 0) rfl (by decide) dL_acts_278 (q := 279) rfl ?_
    refine pw_cvI3 hX dL_acts_279 (q := 282) rfl mi_X3_entryOf ml_L_9 rcR ⟨rfl, rfl, by decide, by decide⟩ rfl (Nat.le_of_ble_eq_true rfl) (c_X3_entryOf hVW) ?_
    rw [hV1, qEO_t hn1 hv1 (by omega) q6]
    refine pw_iconst hX (k := 1) rfl (by decide) dL_acts_282 (q := 283) rfl ?_
    refine pw_icmpN_ne hX (by first | omega | assumption) (by first | omega | assumption) (tgt := 321) dL_acts_283 (q := 286) rfl (by decide) (fun h => False.elim (by first | omega | exact absurd h (by decide) | exact h (by decide) | exact h rfl)) (fun h_283 => ?_)
    refine pw_aload_n hX rfl dL_acts_286 (q := 287) rfl ?_
    refine pw_iload_n hX rfl dL_acts_287 (q := 288) rfl ?_
    refine pw_iload hX rfl dL_acts_288 (q := 290) rfl ?_
    refine pw_bipush hX (k := 6) (by decide) dL_acts_290 (q := 292) rfl ?_
    refine pw_cvI3 hX dL_acts_292 (q := 295) rfl mi_X3_entryOf ml_L_9 rcR ⟨rfl, rfl, by decide, by decide⟩ rfl (Nat.le_of_ble_eq_true rfl) (c_X3_entryOf hVW) ?_
    rw [hV1, qEO_6 hn1 hv1 (by omega) q6, q9]
    refine pw_iconst hX (k := 1) rfl (by decide) dL_acts_295 (q := 296) rfl ?_
    refine pw_iload_n hX rfl dL_acts_296 (q := 297) rfl ?_
    refine pw_ishl1 hX (by omega) dL_acts_297 (q := 298) rfl ?_
    refine pw_icmpN_ne hX (by first | omega | assumption) (by first | omega | assumption) (tgt := 321) dL_acts_298 (q := 301) rfl (by decide) (fun h => False.elim (by exact h rfl)) (fun h_298 => ?_)
    refine pw_aload_n hX rfl dL_acts_301 (q := 302) rfl ?_
    refine pw_iload_n hX rfl dL_acts_302 (q := 303) rfl ?_
    refine pw_iload hX rfl dL_acts_303 (q := 305) rfl ?_
    refine pw_iconst hX (k := 5) rfl (by decide) dL_acts_305 (q := 306) rfl ?_
    refine pw_cvI3 hX dL_acts_306 (q := 309) rfl mi_X3_entryOf ml_L_9 rcR ⟨rfl, rfl, by decide, by decide⟩ rfl (Nat.le_of_ble_eq_true rfl) (c_X3_entryOf hVW) ?_
    rw [hV1, qEO_5 hn1 hv1 (by omega) q6, q8]
    refine pw_aload_n hX rfl dL_acts_309 (q := 310) rfl ?_
    refine pw_iconst hX (k := 3) rfl (by decide) dL_acts_310 (q := 311) rfl ?_
    refine pw_cvI1 hX dL_acts_311 (q := 314) rfl mi_X3_count ml_L_15 rcR ⟨rfl, rfl, by decide, by decide⟩ rfl (Nat.le_of_ble_eq_true rfl) (c_X3_count hVW) ?_
    rw [hV1, qCnt_3, q1]
    refine pw_icmpN_ne hX (by first | omega | assumption) (by first | omega | assumption) (tgt := 321) dL_acts_314 (q := 317) rfl (by decide) (fun h => False.elim (by exact h rfl)) (fun h_314 => ?_)
    refine pw_iconst hX (k := 1) rfl (by decide) dL_acts_317 (q := 318) rfl ?_
    refine pw_goto hX (tgt := 322) dL_acts_318 (by decide) ?_
    refine pw_ireturn hX dL_acts_322 ⟨_, rfl, by first | exact bI_nar _ | decide | rfl⟩ ⟨congrArg (fun z => some (Value.int z)) ?_, ?_⟩
    · rfl
    · exact hS1
  · skip
    refine pw_aload_n hX rfl dL_acts_217 (q := 218) rfl ?_
    refine pw_iload_n hX rfl dL_acts_218 (q := 219) rfl ?_
    refine pw_iload hX rfl dL_acts_219 (q := 221) rfl ?_
    refine pw_cvI2 hX dL_acts_221 (q := 224) rfl mi_X3_bury ml_L_43 rcR ⟨rfl, rfl, by decide, by decide⟩ rfl (Nat.le_of_ble_eq_true rfl) (c_X3_bury hW.1 hV (J_2 hJ (by omega))) ?_
    rw [kMT_at hn (by omega) (by omega), if_neg hs]
    have hr := WJ_rec (V' := w.1 0) (N' := N + 1) (G' := G + 12) (n' := 5) hW (J_le hJ (show N ≤ N + 1 by omega) (show G ≤ G + 12 by omega)) (h5) (-1000002)
    obtain ⟨hS1, hV1⟩ := hr
    try dsimp only
    revert hS1 hV1
    generalize Rec (wO (Prep w) 0 (w.1 0)) (-1000002) = W1
    intro hS1 hV1
    have hVW : bV (W1.1 0) := (J_b hS1.2.2.1 (by omega)).1
    have hW5 : W1.1 0 0 0 = 5 := hS1.2.2.2
    refine pw_istore hX (by decide) dL_acts_224 (q := 226) rfl ?_
    refine pw_iload hX rfl dL_acts_226 (q := 228) rfl ?_
    refine pw_ldc hX cn_L_38 dL_acts_228 (q := 230) rfl ?_
    refine pw_icmp_ne hX (tgt := 252) dL_acts_230 (q := 233) rfl (by decide) (fun h => False.elim (by exact h rfl)) (fun h_230 => ?_)
    refine pw_aload_n hX rfl dL_acts_233 (q := 234) rfl ?_
    refine pw_bipush hX (k := 9) (by decide) dL_acts_234 (q := 236) rfl ?_
    refine pw_cvI1 hX dL_acts_236 (q := 239) rfl mi_X3_count ml_L_15 rcR ⟨rfl, rfl, by decide, by decide⟩ rfl (Nat.le_of_ble_eq_true rfl) (c_X3_count hVW) ?_
    rw [hV1, qCnt_9]
    refine pw_iload hX rfl dL_acts_239 (q := 241) rfl ?_
    refine pw_icmpN_ne hX (by first | omega | assumption) (by first | omega | assumption) (tgt := 248) dL_acts_241 (q := 244) rfl (by decide) (fun h => False.elim (by first | omega | exact absurd h (by decide) | exact h (by decide) | exact h rfl)) (fun h_241 => ?_)
    refine pw_iconst hX (k := 1) rfl (by decide) dL_acts_244 (q := 245) rfl ?_
    refine pw_goto hX (tgt := 322) dL_acts_245 (by decide) ?_
    refine pw_ireturn hX dL_acts_322 ⟨_, rfl, by first | exact bI_nar _ | decide | rfl⟩ ⟨congrArg (fun z => some (Value.int z)) ?_, ?_⟩
    · rfl
    · exact hS1
set_option maxHeartbeats 2000000 in
set_option maxRecDepth 20000 in
theorem ac_323 {l : Launch} {g : Geo} {w : WD} {N G y z v u t : Nat} {P : PT} (hX : Gd l g RL cL_acts rm_L_acts 17 (some .boolean) (Fn (N + 1) (G + 12)) (fun _ _ _ => False) P) (hW : WJ w N G 5) (hN : N ≤ 1000) (hG : G ≤ 2 ^ 20) (hv : v < 5) (ht : t < 3) (hz : z < 2 ^ 31) : P w 323 [some (.ref (g_ad g 10 0)), some (.int (nI (y))), some (.int (nI (z))), some (.int (nI (v))), some (.int (nI (u))), some (.int (nI (t))), some (.int (nI (w.1 0 2 v))), none, none, none, none, none, none, none, none, none, none] [] := by
  have hJ := hW.2.2.1
  have h5 : w.1 0 0 0 = 5 := hW.2.2.2
  have hn : w.1 0 0 0 ≤ 7 := by omega
  have hV : bV (w.1 0) := (J_b hJ (by omega)).1
  have hs4 := hJ.2.2.2.2.1 v (by omega)
  have hp2 : 2 ^ v < 2 ^ 31 := Nat.pow_lt_pow_right (by decide) (by omega)
  have hml := many_le (w.1 0) 0
  refine pw_aload_n hX rfl dL_acts_323 (q := 324) rfl ?_
  refine pw_iconst hX (k := 1) rfl (by decide) dL_acts_324 (q := 325) rfl ?_
  refine pw_cvI1 hX dL_acts_325 (q := 328) rfl mi_X3_count ml_L_15 rcR ⟨rfl, rfl, by decide, by decide⟩ rfl (Nat.le_of_ble_eq_true rfl) (c_X3_count hV) ?_
  rw [qCnt_1]
  refine pw_istore hX (by decide) dL_acts_328 (q := 330) rfl ?_
  by_cases hs : w.1 0 1 v = 0
  · skip
    refine pw_aload_n hX rfl dL_acts_330 (q := 331) rfl ?_
    refine pw_iload_n hX rfl dL_acts_331 (q := 332) rfl ?_
    refine pw_cvI1 hX dL_acts_332 (q := 335) rfl mi_X3_sleep ml_L_46 rcR ⟨rfl, rfl, by decide, by decide⟩ rfl (Nat.le_of_ble_eq_true rfl) (c_X3_sleep hW.1 hV) ?_
    rw [kSl_at hn (by omega), if_pos hs]
    have hr := WJ_rec (V' := vU (vU (w.1 0) 1 v 1) 3 v (w.1 0 0 1)) (N' := N + 1) (G' := G + 12) (n' := 5) hW (J_le (J_sl hJ) (show N ≤ N + 1 by omega) (show G ≤ G + 12 by omega)) (by rw [(sl_s (w.1 0) v).1]; exact h5) (nI (kMany (vU (vU (w.1 0) 1 v 1) 3 v (w.1 0 0 1)) 0))
    obtain ⟨hS1, hV1⟩ := hr
    try dsimp only
    revert hS1 hV1
    generalize Rec (wO (Prep w) 0 (vU (vU (w.1 0) 1 v 1) 3 v (w.1 0 0 1))) (nI (kMany (vU (vU (w.1 0) 1 v 1) 3 v (w.1 0 0 1)) 0)) = W1
    intro hS1 hV1
    have hVW : bV (W1.1 0) := (J_b hS1.2.2.1 (by omega)).1
    have hW5 : W1.1 0 0 0 = 5 := hS1.2.2.2
    have hmm := many_sl (V := w.1 0) (v := v) (by omega) hs
    obtain ⟨q0, q1, q3⟩ := sl_s (w.1 0) v
    revert hV1 hmm q0 q1 q3
    generalize vU (vU (w.1 0) 1 v 1) 3 v (w.1 0 0 1) = V1
    intro hV1 hmm q0 q1 q3
    have hn1 : V1 0 0 ≤ 7 := by rw [q0]; exact hn
    have hv1 : v < V1 0 0 := by rw [q0]; omega
    refine pw_istore hX (by decide) dL_acts_335 (q := 337) rfl ?_
    refine pw_iload hX rfl dL_acts_337 (q := 339) rfl ?_
    refine pw_ldc hX cn_L_38 dL_acts_339 (q := 341) rfl ?_
    refine pw_icmp_eq hX (tgt := 362) dL_acts_341 (q := 344) rfl (by decide) (fun h => False.elim (by exact nI_nn (by first | omega | assumption) (by decide) h)) (fun h_341 => ?_)
    refine pw_iload hX rfl dL_acts_344 (q := 346) rfl ?_
    refine pw_iload hX rfl dL_acts_346 (q := 348) rfl ?_
    refine pw_iconst hX (k := 1) rfl (by decide) dL_acts_348 (q := 349) rfl ?_
    refine pw_isubN hX (by first | assumption | omega) dL_acts_349 (q := 350) rfl ?_
    refine pw_icmp_ne hX (tgt := 366) dL_acts_350 (q := 353) rfl (by decide) (fun h => False.elim (by exact h (congrArg nI (show kMany V1 0 = kMany (w.1 0) 0 - 1 by omega)))) (fun h_350 => ?_)
    refine pw_aload_n hX rfl dL_acts_353 (q := 354) rfl ?_
    refine pw_iload_n hX rfl dL_acts_354 (q := 355) rfl ?_
    refine pw_iconst hX (k := 5) rfl (by decide) dL_acts_355 (q := 356) rfl ?_
    refine pw_cvI2 hX dL_acts_356 (q := 359) rfl mi_X3_villagerOf ml_L_19 rcR ⟨rfl, rfl, by decide, by decide⟩ rfl (Nat.le_of_ble_eq_true rfl) (c_X3_villagerOf hVW) ?_
    rw [hV1, qOf_5 hn1 hv1, if_pos q1, q0, q3, nI_sub (Nat.le_refl _), Nat.sub_self]
    refine pw_ifN_ne hX (by first | omega | assumption) (tgt := 366) dL_acts_359 (q := 362) rfl (by decide) (fun h => False.elim (by first | omega | exact absurd h (by decide) | exact h (by decide) | exact h rfl)) (fun h_359 => ?_)
    refine pw_iconst hX (k := 1) rfl (by decide) dL_acts_362 (q := 363) rfl ?_
    refine pw_goto hX (tgt := 367) dL_acts_363 (by decide) ?_
    refine pw_ireturn hX dL_acts_367 ⟨_, rfl, by first | exact bI_nar _ | decide | rfl⟩ ⟨congrArg (fun z => some (Value.int z)) ?_, ?_⟩
    · rfl
    · exact hS1
  · skip
    refine pw_aload_n hX rfl dL_acts_330 (q := 331) rfl ?_
    refine pw_iload_n hX rfl dL_acts_331 (q := 332) rfl ?_
    refine pw_cvI1 hX dL_acts_332 (q := 335) rfl mi_X3_sleep ml_L_46 rcR ⟨rfl, rfl, by decide, by decide⟩ rfl (Nat.le_of_ble_eq_true rfl) (c_X3_sleep hW.1 hV) ?_
    rw [kSl_at hn (by omega), if_neg hs]
    have hr := WJ_rec (V' := w.1 0) (N' := N + 1) (G' := G + 12) (n' := 5) hW (J_le hJ (show N ≤ N + 1 by omega) (show G ≤ G + 12 by omega)) (h5) (-1000002)
    obtain ⟨hS1, hV1⟩ := hr
    try dsimp only
    revert hS1 hV1
    generalize Rec (wO (Prep w) 0 (w.1 0)) (-1000002) = W1
    intro hS1 hV1
    have hVW : bV (W1.1 0) := (J_b hS1.2.2.1 (by omega)).1
    have hW5 : W1.1 0 0 0 = 5 := hS1.2.2.2
    refine pw_istore hX (by decide) dL_acts_335 (q := 337) rfl ?_
    refine pw_iload hX rfl dL_acts_337 (q := 339) rfl ?_
    refine pw_ldc hX cn_L_38 dL_acts_339 (q := 341) rfl ?_
    refine pw_icmp_eq hX (tgt := 362) dL_acts_341 (q := 344) rfl (by decide) (fun h_341 => ?_) (fun h => False.elim (by exact h rfl))
    refine pw_iconst hX (k := 1) rfl (by decide) dL_acts_362 (q := 363) rfl ?_
    refine pw_goto hX (tgt := 367) dL_acts_363 (by decide) ?_
    refine pw_ireturn hX dL_acts_367 ⟨_, rfl, by first | exact bI_nar _ | decide | rfl⟩ ⟨congrArg (fun z => some (Value.int z)) ?_, ?_⟩
    · rfl
    · exact hS1
set_option maxHeartbeats 2000000 in
set_option maxRecDepth 20000 in
theorem ac_368 {l : Launch} {g : Geo} {w : WD} {N G y z v u t : Nat} {P : PT} (hX : Gd l g RL cL_acts rm_L_acts 17 (some .boolean) (Fn (N + 1) (G + 12)) (fun _ _ _ => False) P) (hW : WJ w N G 5) (hN : N ≤ 1000) (hG : G ≤ 2 ^ 20) (hv : v < 5) (ht : t < 3) (hz : z < 2 ^ 31) : P w 368 [some (.ref (g_ad g 10 0)), some (.int (nI (y))), some (.int (nI (z))), some (.int (nI (v))), some (.int (nI (u))), some (.int (nI (t))), some (.int (nI (w.1 0 2 v))), none, none, none, none, none, none, none, none, none, none] [] := by
  have hJ := hW.2.2.1
  have h5 : w.1 0 0 0 = 5 := hW.2.2.2
  have hn : w.1 0 0 0 ≤ 7 := by omega
  have hV : bV (w.1 0) := (J_b hJ (by omega)).1
  have hs4 := hJ.2.2.2.2.1 v (by omega)
  have hp2 : 2 ^ v < 2 ^ 31 := Nat.pow_lt_pow_right (by decide) (by omega)
  have hb1 := hJ.2.1
  refine pw_aload_n hX rfl dL_acts_368 (q := 369) rfl ?_
  refine pw_iload_n hX rfl dL_acts_369 (q := 370) rfl ?_
  by_cases hs : w.1 0 1 v = 1
  · skip
    refine pw_iconst hX (k := 5) rfl (by decide) dL_acts_370 (q := 371) rfl ?_
    refine pw_cvI2 hX dL_acts_371 (q := 374) rfl mi_X3_villagerOf ml_L_19 rcR ⟨rfl, rfl, by decide, by decide⟩ rfl (Nat.le_of_ble_eq_true rfl) (c_X3_villagerOf hV) ?_
    rw [qOf_5 hn (by omega), if_pos hs, nI_sub (by omega)]
    refine pw_istore hX (by decide) dL_acts_374 (q := 376) rfl ?_
    refine pw_aload_n hX rfl dL_acts_376 (q := 377) rfl ?_
    refine pw_iload_n hX rfl dL_acts_377 (q := 378) rfl ?_
    refine pw_cvI1 hX dL_acts_378 (q := 381) rfl mi_X3_wake ml_L_49 rcR ⟨rfl, rfl, by decide, by decide⟩ rfl (Nat.le_of_ble_eq_true rfl) (c_X3_wake hW.1 hV) ?_
    rw [kWk_at hn (by omega), if_pos hs, nI_sub (by omega)]
    have hr := WJ_rec (V' := vU (w.1 0) 1 v 0) (N' := N + 1) (G' := G + 12) (n' := 5) hW (J_le (J_wk hJ) (show N ≤ N + 1 by omega) (show G ≤ G + 12 by omega)) (by rw [vU_n _ _ _ (by decide)]; exact h5) (nI (w.1 0 0 1 - w.1 0 3 v))
    obtain ⟨hS1, hV1⟩ := hr
    try dsimp only
    revert hS1 hV1
    generalize Rec (wO (Prep w) 0 (vU (w.1 0) 1 v 0)) (nI (w.1 0 0 1 - w.1 0 3 v)) = W1
    intro hS1 hV1
    have hVW : bV (W1.1 0) := (J_b hS1.2.2.1 (by omega)).1
    have hW5 : W1.1 0 0 0 = 5 := hS1.2.2.2
    refine pw_iload hX rfl dL_acts_381 (q := 383) rfl ?_
    refine pw_if_ge hX (tgt := 391) dL_acts_383 (q := 386) rfl (by decide) (fun h_383 => ?_) (fun h => False.elim (by exact h (nI_pos' (by omega))))
    refine pw_iload hX rfl dL_acts_391 (q := 393) rfl ?_
    refine pw_icmp_ne hX (tgt := 400) dL_acts_393 (q := 396) rfl (by decide) (fun h => False.elim (by exact h rfl)) (fun h_393 => ?_)
    refine pw_iconst hX (k := 1) rfl (by decide) dL_acts_396 (q := 397) rfl ?_
    refine pw_goto hX (tgt := 401) dL_acts_397 (by decide) ?_
    refine pw_ireturn hX dL_acts_401 ⟨_, rfl, by first | exact bI_nar _ | decide | rfl⟩ ⟨congrArg (fun z => some (Value.int z)) ?_, ?_⟩
    · rfl
    · exact hS1
  · skip
    refine pw_iconst hX (k := 5) rfl (by decide) dL_acts_370 (q := 371) rfl ?_
    refine pw_cvI2 hX dL_acts_371 (q := 374) rfl mi_X3_villagerOf ml_L_19 rcR ⟨rfl, rfl, by decide, by decide⟩ rfl (Nat.le_of_ble_eq_true rfl) (c_X3_villagerOf hV) ?_
    rw [qOf_5 hn (by omega), if_neg hs]
    refine pw_istore hX (by decide) dL_acts_374 (q := 376) rfl ?_
    refine pw_aload_n hX rfl dL_acts_376 (q := 377) rfl ?_
    refine pw_iload_n hX rfl dL_acts_377 (q := 378) rfl ?_
    refine pw_cvI1 hX dL_acts_378 (q := 381) rfl mi_X3_wake ml_L_49 rcR ⟨rfl, rfl, by decide, by decide⟩ rfl (Nat.le_of_ble_eq_true rfl) (c_X3_wake hW.1 hV) ?_
    rw [kWk_at hn (by omega), if_neg hs]
    have hr := WJ_rec (V' := w.1 0) (N' := N + 1) (G' := G + 12) (n' := 5) hW (J_le hJ (show N ≤ N + 1 by omega) (show G ≤ G + 12 by omega)) (h5) (-1000002)
    obtain ⟨hS1, hV1⟩ := hr
    try dsimp only
    revert hS1 hV1
    generalize Rec (wO (Prep w) 0 (w.1 0)) (-1000002) = W1
    intro hS1 hV1
    have hVW : bV (W1.1 0) := (J_b hS1.2.2.1 (by omega)).1
    have hW5 : W1.1 0 0 0 = 5 := hS1.2.2.2
    refine pw_iload hX rfl dL_acts_381 (q := 383) rfl ?_
    refine pw_if_ge hX (tgt := 391) dL_acts_383 (q := 386) rfl (by decide) (fun h => False.elim (by exact absurd h (by decide))) (fun h_383 => ?_)
    refine pw_ldc hX cn_L_38 dL_acts_386 (q := 388) rfl ?_
    refine pw_goto hX (tgt := 393) dL_acts_388 (by decide) ?_
    refine pw_icmp_ne hX (tgt := 400) dL_acts_393 (q := 396) rfl (by decide) (fun h => False.elim (by exact h rfl)) (fun h_393 => ?_)
    refine pw_iconst hX (k := 1) rfl (by decide) dL_acts_396 (q := 397) rfl ?_
    refine pw_goto hX (tgt := 401) dL_acts_397 (by decide) ?_
    refine pw_ireturn hX dL_acts_401 ⟨_, rfl, by first | exact bI_nar _ | decide | rfl⟩ ⟨congrArg (fun z => some (Value.int z)) ?_, ?_⟩
    · rfl
    · exact hS1
set_option maxHeartbeats 2000000 in
set_option maxRecDepth 20000 in
theorem ac_402 {l : Launch} {g : Geo} {w : WD} {N G y z v u t : Nat} {P : PT} (hX : Gd l g RL cL_acts rm_L_acts 17 (some .boolean) (Fn (N + 1) (G + 12)) (fun _ _ _ => False) P) (hW : WJ w N G 5) (hN : N ≤ 1000) (hG : G ≤ 2 ^ 20) (hv : v < 5) (ht : t < 3) (hz : z < 2 ^ 31) : P w 402 [some (.ref (g_ad g 10 0)), some (.int (nI (y))), some (.int (nI (z))), some (.int (nI (v))), some (.int (nI (u))), some (.int (nI (t))), some (.int (nI (w.1 0 2 v))), none, none, none, none, none, none, none, none, none, none] [] := by
  have hJ := hW.2.2.1
  have h5 : w.1 0 0 0 = 5 := hW.2.2.2
  have hn : w.1 0 0 0 ≤ 7 := by omega
  have hV : bV (w.1 0) := (J_b hJ (by omega)).1
  have hs4 := hJ.2.2.2.2.1 v (by omega)
  have hp2 : 2 ^ v < 2 ^ 31 := Nat.pow_lt_pow_right (by decide) (by omega)
  have hb1 := hJ.2.1
  have hl1 := nTo_le (w.1 0) (w.1 0 0 0)
  have hl2 := nRu_le (w.1 0) (w.1 0 0 0)
  refine pw_aload_n hX rfl dL_acts_402 (q := 403) rfl ?_
  refine pw_bipush hX (k := 6) (by decide) dL_acts_403 (q := 405) rfl ?_
  refine pw_cvI1 hX dL_acts_405 (q := 408) rfl mi_X3_count ml_L_15 rcR ⟨rfl, rfl, by decide, by decide⟩ rfl (Nat.le_of_ble_eq_true rfl) (c_X3_count hV) ?_
  rw [qCnt_6]
  refine pw_istore hX (by decide) dL_acts_408 (q := 410) rfl ?_
  refine pw_aload_n hX rfl dL_acts_410 (q := 411) rfl ?_
  refine pw_iconst hX (k := 5) rfl (by decide) dL_acts_411 (q := 412) rfl ?_
  refine pw_cvI1 hX dL_acts_412 (q := 415) rfl mi_X3_count ml_L_15 rcR ⟨rfl, rfl, by decide, by decide⟩ rfl (Nat.le_of_ble_eq_true rfl) (c_X3_count hV) ?_
  rw [qCnt_5]
  refine pw_istore hX (by decide) dL_acts_415 (q := 417) rfl ?_
  refine pw_aload_n hX rfl dL_acts_417 (q := 418) rfl ?_
  refine pw_iconst hX (k := 3) rfl (by decide) dL_acts_418 (q := 419) rfl ?_
  refine pw_cvI1 hX dL_acts_419 (q := 422) rfl mi_X3_count ml_L_15 rcR ⟨rfl, rfl, by decide, by decide⟩ rfl (Nat.le_of_ble_eq_true rfl) (c_X3_count hV) ?_
  rw [qCnt_3]
  refine pw_istore hX (by decide) dL_acts_422 (q := 424) rfl ?_
  refine pw_aload_n hX rfl dL_acts_424 (q := 425) rfl ?_
  refine pw_iconst hX (k := 1) rfl (by decide) dL_acts_425 (q := 426) rfl ?_
  refine pw_iload_n hX rfl dL_acts_426 (q := 427) rfl ?_
  refine pw_bipush hX (k := 8) (by decide) dL_acts_427 (q := 429) rfl ?_
  refine pw_idivN hX (by first | omega | assumption) (by decide) (by decide) dL_acts_429 (q := 430) rfl ?_
  refine pw_iconst hX (k := 4) rfl (by decide) dL_acts_430 (q := 431) rfl ?_
  refine pw_iremN hX (by first | omega | assumption) (by decide) (by decide) dL_acts_431 (q := 432) rfl ?_
  refine pw_iaddN hX dL_acts_432 (q := 433) rfl ?_
  refine pw_cvI1 hX dL_acts_433 (q := 436) rfl mi_X3_tick ml_L_52 rcR ⟨rfl, rfl, by decide, by decide⟩ rfl (Nat.le_of_ble_eq_true rfl) (c_X3_tick hW.1 hV (fun p hp => (hJ.2.2.2.2.2.2.1 p hp).2.2.1)) ?_
  rw [kTick_at (by omega) (by omega) (by omega)]
  have hps := Pass_spec hJ (1 + z / 8 % 4) 1 (by omega)
  have hps0 : (kPass (w.1 0) (1 + z / 8 % 4)).1 0 0 = 5 := by rw [hps.2.1]; exact h5
  try dsimp only
  revert hps hps0
  generalize kPass (w.1 0) (1 + z / 8 % 4) = KK
  intro hps hps0
  have hr := WJ_rec (V' := KK.1) (N' := N + 1) (G' := G + 12) (n' := 5) hW (J_le hps.1 (Nat.le_refl _) (show G ≤ G + 12 by omega)) (hps0) (nI KK.2)
  obtain ⟨hS1, hV1⟩ := hr
  try dsimp only
  revert hS1 hV1
  generalize Rec (wO (Prep w) 0 (KK.1)) (nI KK.2) = W1
  intro hS1 hV1
  have hVW : bV (W1.1 0) := (J_b hS1.2.2.1 (by omega)).1
  have hW5 : W1.1 0 0 0 = 5 := hS1.2.2.2
  obtain ⟨-, p0, p1, pR, pT, -⟩ := hps
  refine pw_istore hX (by decide) dL_acts_436 (q := 438) rfl ?_
  refine pw_iload hX rfl dL_acts_438 (q := 440) rfl ?_
  refine pw_if_lt hX (tgt := 490) dL_acts_440 (q := 443) rfl (by decide) (fun h => False.elim (by exact nI_pos (by omega) h)) (fun h_440 => ?_)
  refine pw_aload_n hX rfl dL_acts_443 (q := 444) rfl ?_
  refine pw_bipush hX (k := 6) (by decide) dL_acts_444 (q := 446) rfl ?_
  refine pw_cvI1 hX dL_acts_446 (q := 449) rfl mi_X3_count ml_L_15 rcR ⟨rfl, rfl, by decide, by decide⟩ rfl (Nat.le_of_ble_eq_true rfl) (c_X3_count hVW) ?_
  rw [hV1, qCnt_6, p0]
  refine pw_iload hX rfl dL_acts_449 (q := 451) rfl ?_
  refine pw_iload hX rfl dL_acts_451 (q := 453) rfl ?_
  refine pw_isubN hX (by first | assumption | omega) dL_acts_453 (q := 454) rfl ?_
  refine pw_icmpN_ne hX (by first | omega | assumption) (by first | omega | assumption) (tgt := 490) dL_acts_454 (q := 457) rfl (by decide) (fun h => False.elim (by first | omega | exact absurd h (by decide) | exact h (by decide) | exact h rfl)) (fun h_454 => ?_)
  refine pw_aload_n hX rfl dL_acts_457 (q := 458) rfl ?_
  refine pw_iconst hX (k := 5) rfl (by decide) dL_acts_458 (q := 459) rfl ?_
  refine pw_cvI1 hX dL_acts_459 (q := 462) rfl mi_X3_count ml_L_15 rcR ⟨rfl, rfl, by decide, by decide⟩ rfl (Nat.le_of_ble_eq_true rfl) (c_X3_count hVW) ?_
  rw [hV1, qCnt_5, p0, pR]
  refine pw_iload hX rfl dL_acts_462 (q := 464) rfl ?_
  refine pw_icmpN_ne hX (by first | omega | assumption) (by first | omega | assumption) (tgt := 490) dL_acts_464 (q := 467) rfl (by decide) (fun h => False.elim (by exact h rfl)) (fun h_464 => ?_)
  refine pw_aload_n hX rfl dL_acts_467 (q := 468) rfl ?_
  refine pw_iconst hX (k := 3) rfl (by decide) dL_acts_468 (q := 469) rfl ?_
  refine pw_cvI1 hX dL_acts_469 (q := 472) rfl mi_X3_count ml_L_15 rcR ⟨rfl, rfl, by decide, by decide⟩ rfl (Nat.le_of_ble_eq_true rfl) (c_X3_count hVW) ?_
  rw [hV1, qCnt_3, p1]
  refine pw_iload hX rfl dL_acts_472 (q := 474) rfl ?_
  refine pw_iconst hX (k := 1) rfl (by decide) dL_acts_474 (q := 475) rfl ?_
  refine pw_iaddN hX dL_acts_475 (q := 476) rfl ?_
  refine pw_iload_n hX rfl dL_acts_476 (q := 477) rfl ?_
  refine pw_bipush hX (k := 8) (by decide) dL_acts_477 (q := 479) rfl ?_
  refine pw_idivN hX (by first | omega | assumption) (by decide) (by decide) dL_acts_479 (q := 480) rfl ?_
  refine pw_iconst hX (k := 4) rfl (by decide) dL_acts_480 (q := 481) rfl ?_
  refine pw_iremN hX (by first | omega | assumption) (by decide) (by decide) dL_acts_481 (q := 482) rfl ?_
  refine pw_iaddN hX dL_acts_482 (q := 483) rfl ?_
  refine pw_icmpN_ne hX (by first | omega | assumption) (by first | omega | assumption) (tgt := 490) dL_acts_483 (q := 486) rfl (by decide) (fun h => False.elim (by first | omega | exact absurd h (by decide) | exact h (by decide) | exact h rfl)) (fun h_483 => ?_)
  refine pw_iconst hX (k := 1) rfl (by decide) dL_acts_486 (q := 487) rfl ?_
  refine pw_goto hX (tgt := 491) dL_acts_487 (by decide) ?_
  refine pw_ireturn hX dL_acts_491 ⟨_, rfl, by first | exact bI_nar _ | decide | rfl⟩ ⟨congrArg (fun z => some (Value.int z)) ?_, ?_⟩
  · rfl
  · exact hS1
set_option maxHeartbeats 2000000 in
set_option maxRecDepth 20000 in
theorem ac_492 {l : Launch} {g : Geo} {w : WD} {N G y z v u t : Nat} {P : PT} (hX : Gd l g RL cL_acts rm_L_acts 17 (some .boolean) (Fn (N + 1) (G + 12)) (fun _ _ _ => False) P) (hW : WJ w N G 5) (hN : N ≤ 1000) (hG : G ≤ 2 ^ 20) (hv : v < 5) (ht : t < 3) (hz : z < 2 ^ 31) : P w 492 [some (.ref (g_ad g 10 0)), some (.int (nI (y))), some (.int (nI (z))), some (.int (nI (v))), some (.int (nI (u))), some (.int (nI (t))), some (.int (nI (w.1 0 2 v))), none, none, none, none, none, none, none, none, none, none] [] := by
  have hJ := hW.2.2.1
  have h5 : w.1 0 0 0 = 5 := hW.2.2.2
  have hn : w.1 0 0 0 ≤ 7 := by omega
  have hV : bV (w.1 0) := (J_b hJ (by omega)).1
  have hs4 := hJ.2.2.2.2.1 v (by omega)
  have hp2 : 2 ^ v < 2 ^ 31 := Nat.pow_lt_pow_right (by decide) (by omega)
  have hb2 := hJ.2.2.1
  refine pw_aload_n hX rfl dL_acts_492 (q := 493) rfl ?_
  refine pw_iconst hX (k := 1) rfl (by decide) dL_acts_493 (q := 494) rfl ?_
  refine pw_iload_n hX rfl dL_acts_494 (q := 495) rfl ?_
  refine pw_bipush hX (k := 30) (by decide) dL_acts_495 (q := 497) rfl ?_
  refine pw_iremN hX (by first | omega | assumption) (by decide) (by decide) dL_acts_497 (q := 498) rfl ?_
  refine pw_iaddN hX dL_acts_498 (q := 499) rfl ?_
  refine pw_cvI1 hX dL_acts_499 (q := 502) rfl mi_X3_watch ml_L_55 rcR ⟨rfl, rfl, by decide, by decide⟩ rfl (Nat.le_of_ble_eq_true rfl) (c_X3_watch hW.1 hV) ?_
  rw [kCw_at (by omega) (by omega)]
  have hr := WJ_rec (V' := vU (w.1 0) 0 2 (1 + z % 30)) (N' := N + 1) (G' := G + 12) (n' := 5) hW (J_le (J_cw hJ (by omega)) (show N ≤ N + 1 by omega) (show G ≤ G + 12 by omega)) (by rw [vUe, if_neg (by decide)]; exact h5) (nI (w.1 0 0 2))
  obtain ⟨hS1, hV1⟩ := hr
  try dsimp only
  revert hS1 hV1
  generalize Rec (wO (Prep w) 0 (vU (w.1 0) 0 2 (1 + z % 30))) (nI (w.1 0 0 2)) = W1
  intro hS1 hV1
  have hVW : bV (W1.1 0) := (J_b hS1.2.2.1 (by omega)).1
  have hW5 : W1.1 0 0 0 = 5 := hS1.2.2.2
  refine pw_iconst hX (k := 1) rfl (by decide) dL_acts_502 (q := 503) rfl ?_
  refine pw_icmpN_lt hX (by first | omega | assumption) (by first | omega | assumption) (tgt := 510) dL_acts_503 (q := 506) rfl (by decide) (fun h => False.elim (by first | omega | exact absurd h (by decide) | exact h (by decide) | exact h rfl)) (fun h_503 => ?_)
  refine pw_iconst hX (k := 1) rfl (by decide) dL_acts_506 (q := 507) rfl ?_
  refine pw_goto hX (tgt := 511) dL_acts_507 (by decide) ?_
  refine pw_ireturn hX dL_acts_511 ⟨_, rfl, by first | exact bI_nar _ | decide | rfl⟩ ⟨congrArg (fun z => some (Value.int z)) ?_, ?_⟩
  · rfl
  · exact hS1
set_option maxHeartbeats 2000000 in
set_option maxRecDepth 20000 in
theorem ac_512 {l : Launch} {g : Geo} {w : WD} {N G y z v u t : Nat} {P : PT} (hX : Gd l g RL cL_acts rm_L_acts 17 (some .boolean) (Fn (N + 1) (G + 12)) (fun _ _ _ => False) P) (hW : WJ w N G 5) (hN : N ≤ 1000) (hG : G ≤ 2 ^ 20) (hv : v < 5) (ht : t < 3) (hz : z < 2 ^ 31) : P w 512 [some (.ref (g_ad g 10 0)), some (.int (nI (y))), some (.int (nI (z))), some (.int (nI (v))), some (.int (nI (u))), some (.int (nI (t))), some (.int (nI (w.1 0 2 v))), none, none, none, none, none, none, none, none, none, none] [] := by
  have hJ := hW.2.2.1
  have h5 : w.1 0 0 0 = 5 := hW.2.2.2
  have hn : w.1 0 0 0 ≤ 7 := by omega
  have hV : bV (w.1 0) := (J_b hJ (by omega)).1
  have hs4 := hJ.2.2.2.2.1 v (by omega)
  have hp2 : 2 ^ v < 2 ^ 31 := Nat.pow_lt_pow_right (by decide) (by omega)
  refine pw_iload_n hX rfl dL_acts_512 (q := 513) rfl ?_
  refine pw_bipush hX (k := 32) (by decide) dL_acts_513 (q := 515) rfl ?_
  rcases (show 0 < z / 32 % 8 ∨ (z / 32 % 8 = 0 ∧ w.1 0 1 v = 2) ∨ (z / 32 % 8 = 0 ∧ w.1 0 1 v ≠ 2) by omega) with hq | ⟨hq, hs⟩ | ⟨hq, hs⟩
  · have hS1 : WJ w (N + 1) (G + 12) 5 := WJ_le hW (by omega) (by omega)
    refine pw_idivN hX (by first | omega | assumption) (by decide) (by decide) dL_acts_515 (q := 516) rfl ?_
    refine pw_bipush hX (k := 8) (by decide) dL_acts_516 (q := 518) rfl ?_
    refine pw_iremN hX (by first | omega | assumption) (by decide) (by decide) dL_acts_518 (q := 519) rfl ?_
    refine pw_ifN_gt hX (by first | omega | assumption) (tgt := 532) dL_acts_519 (q := 522) rfl (by decide) (fun h_519 => ?_) (fun h => False.elim (by first | omega | exact absurd h (by decide) | exact h (by decide) | exact h rfl))
    refine pw_iconst hX (k := 1) rfl (by decide) dL_acts_532 (q := 533) rfl ?_
    refine pw_goto hX (tgt := 537) dL_acts_533 (by decide) ?_
    refine pw_ireturn hX dL_acts_537 ⟨_, rfl, by first | exact bI_nar _ | decide | rfl⟩ ⟨congrArg (fun z => some (Value.int z)) ?_, ?_⟩
    · rfl
    · exact hS1
  · skip
    refine pw_idivN hX (by first | omega | assumption) (by decide) (by decide) dL_acts_515 (q := 516) rfl ?_
    refine pw_bipush hX (k := 8) (by decide) dL_acts_516 (q := 518) rfl ?_
    refine pw_iremN hX (by first | omega | assumption) (by decide) (by decide) dL_acts_518 (q := 519) rfl ?_
    refine pw_ifN_gt hX (by first | omega | assumption) (tgt := 532) dL_acts_519 (q := 522) rfl (by decide) (fun h => False.elim (by first | omega | exact absurd h (by decide) | exact h (by decide) | exact h rfl)) (fun h_519 => ?_)
    refine pw_aload_n hX rfl dL_acts_522 (q := 523) rfl ?_
    refine pw_iload_n hX rfl dL_acts_523 (q := 524) rfl ?_
    refine pw_cvI1 hX dL_acts_524 (q := 527) rfl mi_X3_leave ml_L_58 rcR ⟨rfl, rfl, by decide, by decide⟩ rfl (Nat.le_of_ble_eq_true rfl) (c_X3_leave hW.1 hV) ?_
    rw [kLv_at hn (by omega), if_pos hs]
    have hr := WJ_rec (V' := w.1 0) (N' := N + 1) (G' := G + 12) (n' := 5) hW (J_le hJ (show N ≤ N + 1 by omega) (show G ≤ G + 12 by omega)) (h5) (-1000002)
    obtain ⟨hS1, hV1⟩ := hr
    try dsimp only
    revert hS1 hV1
    generalize Rec (wO (Prep w) 0 (w.1 0)) (-1000002) = W1
    intro hS1 hV1
    have hVW : bV (W1.1 0) := (J_b hS1.2.2.1 (by omega)).1
    have hW5 : W1.1 0 0 0 = 5 := hS1.2.2.2
    refine pw_ldc hX cn_L_61 dL_acts_527 (q := 529) rfl ?_
    refine pw_icmp_eq hX (tgt := 536) dL_acts_529 (q := 532) rfl (by decide) (fun h => False.elim (by exact absurd h (by decide))) (fun h_529 => ?_)
    refine pw_iconst hX (k := 1) rfl (by decide) dL_acts_532 (q := 533) rfl ?_
    refine pw_goto hX (tgt := 537) dL_acts_533 (by decide) ?_
    refine pw_ireturn hX dL_acts_537 ⟨_, rfl, by first | exact bI_nar _ | decide | rfl⟩ ⟨congrArg (fun z => some (Value.int z)) ?_, ?_⟩
    · rfl
    · exact hS1
  · skip
    refine pw_idivN hX (by first | omega | assumption) (by decide) (by decide) dL_acts_515 (q := 516) rfl ?_
    refine pw_bipush hX (k := 8) (by decide) dL_acts_516 (q := 518) rfl ?_
    refine pw_iremN hX (by first | omega | assumption) (by decide) (by decide) dL_acts_518 (q := 519) rfl ?_
    refine pw_ifN_gt hX (by first | omega | assumption) (tgt := 532) dL_acts_519 (q := 522) rfl (by decide) (fun h => False.elim (by first | omega | exact absurd h (by decide) | exact h (by decide) | exact h rfl)) (fun h_519 => ?_)
    refine pw_aload_n hX rfl dL_acts_522 (q := 523) rfl ?_
    refine pw_iload_n hX rfl dL_acts_523 (q := 524) rfl ?_
    refine pw_cvI1 hX dL_acts_524 (q := 527) rfl mi_X3_leave ml_L_58 rcR ⟨rfl, rfl, by decide, by decide⟩ rfl (Nat.le_of_ble_eq_true rfl) (c_X3_leave hW.1 hV) ?_
    rw [kLv_at hn (by omega), if_neg hs]
    have hr := WJ_rec (V' := kGo (w.1 0) v) (N' := N + 1) (G' := G + 12) (n' := 5) hW (J_le (J_go hJ) (show N ≤ N + 1 by omega) (show G ≤ G + 12 by omega)) (by rw [kGo_n _ _ (by decide) (by decide)]; exact h5) (nI (kMany (kGo (w.1 0) v) 0 + kMany (kGo (w.1 0) v) 1))
    obtain ⟨hS1, hV1⟩ := hr
    try dsimp only
    revert hS1 hV1
    generalize Rec (wO (Prep w) 0 (kGo (w.1 0) v)) (nI (kMany (kGo (w.1 0) v) 0 + kMany (kGo (w.1 0) v) 1)) = W1
    intro hS1 hV1
    have hVW : bV (W1.1 0) := (J_b hS1.2.2.1 (by omega)).1
    have hW5 : W1.1 0 0 0 = 5 := hS1.2.2.2
    have e1 := many_le (kGo (w.1 0) v) 0
    have e2 := many_le (kGo (w.1 0) v) 1
    rw [kGo_n _ _ (by decide) (by decide)] at e1 e2
    refine pw_ldc hX cn_L_61 dL_acts_527 (q := 529) rfl ?_
    refine pw_icmp_eq hX (tgt := 536) dL_acts_529 (q := 532) rfl (by decide) (fun h => False.elim (by exact nI_nn (by first | omega | assumption) (by decide) h)) (fun h_529 => ?_)
    refine pw_iconst hX (k := 1) rfl (by decide) dL_acts_532 (q := 533) rfl ?_
    refine pw_goto hX (tgt := 537) dL_acts_533 (by decide) ?_
    refine pw_ireturn hX dL_acts_537 ⟨_, rfl, by first | exact bI_nar _ | decide | rfl⟩ ⟨congrArg (fun z => some (Value.int z)) ?_, ?_⟩
    · rfl
    · exact hS1
