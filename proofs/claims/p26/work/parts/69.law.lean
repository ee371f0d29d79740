set_option maxHeartbeats 2000000 in
set_option maxRecDepth 20000 in
theorem law_c {l : Launch} {g : Geo} {X : Nat → Nat → (Nat → Int32) → Prop} {b N G : Nat} {w : WD} {P : PT} (hX : Gd l g RL cL_law room_1 5 (some .boolean) (fun r _ => r = some (.int 1)) X P) (hW : WJ w N G 5) (hN : N ≤ 1000) : P w 94 [some (.ref b), some (.ref (g_ad g 10 0)), some (.int (nI (1))), some (.int (nI (34))), none] [] := by
  have hJ := hW.2.2.1
  have h5 : w.1 0 0 0 = 5 := hW.2.2.2
  have hn : w.1 0 0 0 ≤ 7 := by omega
  have hV : bV (w.1 0) := (J_b hJ (by omega)).1
  have hb1 := hJ.2.1
  have hl1 := nTo_le (w.1 0) (w.1 0 0 0)
  refine pw_aload_n hX rfl dL_law_94 (q := 95) rfl ?_
  refine pw_iconst hX (k := 3) rfl (by decide) dL_law_95 (q := 96) rfl ?_
  refine pw_cvI1 hX dL_law_96 (q := 99) rfl mi_X3_count ml_L_15 rcR ⟨rfl, rfl, by decide, by decide⟩ rfl (Nat.le_of_ble_eq_true rfl) (c_X3_count hV) ?_
  rw [qCnt_3]
  refine pw_istore_n hX (by decide) dL_law_99 (q := 100) rfl ?_
  refine pw_aload_n hX rfl dL_law_100 (q := 101) rfl ?_
  refine pw_bipush hX (k := 6) (by decide) dL_law_101 (q := 103) rfl ?_
  refine pw_cvI1 hX dL_law_103 (q := 106) rfl mi_X3_count ml_L_15 rcR ⟨rfl, rfl, by decide, by decide⟩ rfl (Nat.le_of_ble_eq_true rfl) (c_X3_count hV) ?_
  rw [qCnt_6]
  refine pw_istore hX (by decide) dL_law_106 (q := 108) rfl ?_
  refine pw_iload_n hX rfl dL_law_108 (q := 109) rfl ?_
  refine pw_ifN_eq hX (by first | omega) (tgt := 141) dL_law_109 (q := 112) rfl (by decide) (fun h => False.elim (by first | omega | exact absurd h (by decide) | exact h (by decide) | exact h rfl)) (fun h_109 => ?_)
  refine pw_aload_n hX rfl dL_law_112 (q := 113) rfl ?_
  refine pw_bipush hX (k := 60) (by decide) dL_law_113 (q := 115) rfl ?_
  refine pw_cvI1 hX dL_law_115 (q := 118) rfl mi_X3_tick ml_L_52 rcR ⟨rfl, rfl, by decide, by decide⟩ rfl (Nat.le_of_ble_eq_true rfl) (c_X3_tick hW.1 hV (fun p hp => (hJ.2.2.2.2.2.2.1 p hp).2.2.1)) ?_
  rw [kTick_at (by decide) (by decide) (by omega)]
  have hps := Pass_spec hJ 60 15 (by decide)
  have hps0 : (kPass (w.1 0) 60).1 0 0 = 5 := by rw [hps.2.1]; exact h5
  try dsimp only
  revert hps hps0
  generalize kPass (w.1 0) 60 = KK
  intro hps hps0
  obtain ⟨pJ, p0, p1, pR, pT, p60⟩ := hps
  rw [show Rec (wO (Prep w) 0 KK.1) (nI KK.2) = hKeep (wO (Prep w) 0 KK.1) from if_neg (nI_pos (by omega))]
  have hks := keep_spec hW pJ hps0
  revert hks
  generalize hKeep (wO (Prep w) 0 KK.1) = W1
  intro hks
  obtain ⟨hS1, hV1, hk1, U, hU⟩ := hks
  have hVW : bV (W1.1 0) := (J_b hS1.2.2.1 (by omega)).1
  have hW5 : W1.1 0 0 0 = 5 := hS1.2.2.2
  refine pw_if_lt hX (tgt := 141) dL_law_118 (q := 121) rfl (by decide) (fun h => False.elim (by exact nI_pos (by omega) h)) (fun h_118 => ?_)
  refine pw_aload_n hX rfl dL_law_121 (q := 122) rfl ?_
  refine pw_bipush hX (k := 6) (by decide) dL_law_122 (q := 124) rfl ?_
  refine pw_cvI1 hX dL_law_124 (q := 127) rfl mi_X3_count ml_L_15 rcR ⟨rfl, rfl, by decide, by decide⟩ rfl (Nat.le_of_ble_eq_true rfl) (c_X3_count hVW) ?_
  rw [hV1, qCnt_6, p0, p60 (by decide)]
  refine pw_ifN_ne hX (by first | omega) (tgt := 141) dL_law_127 (q := 130) rfl (by decide) (fun h => False.elim (by first | omega | exact absurd h (by decide) | exact h (by decide) | exact h rfl)) (fun h_127 => ?_)
  refine pw_aload_n hX rfl dL_law_130 (q := 131) rfl ?_
  refine pw_csI1 hX dL_law_131 (q := 134) rfl mi_L_holds ml_L_67 ⟨rfl, rfl, by decide, by decide⟩ rfl (Nat.le_of_ble_eq_true rfl) (c_L_holds hS1.2.2.1 (by omega)) ?_
  refine pw_ifN_eq hX (by first | omega) (tgt := 141) dL_law_134 (q := 137) rfl (by decide) (fun h => False.elim (by first | omega | exact absurd h (by decide) | exact h (by decide) | exact h rfl)) (fun h_134 => ?_)
  refine pw_iconst hX (k := 1) rfl (by decide) dL_law_137 (q := 138) rfl ?_
  refine pw_goto hX (tgt := 142) dL_law_138 (by decide) ?_
  refine pw_istore_n hX (by decide) dL_law_142 (q := 143) rfl ?_
  refine pw_iload_n hX rfl dL_law_143 (q := 144) rfl ?_
  refine pw_ifN_eq hX (by first | omega) (tgt := 185) dL_law_144 (q := 147) rfl (by decide) (fun h => False.elim (by first | omega | exact absurd h (by decide) | exact h (by decide) | exact h rfl)) (fun h_144 => ?_)
  refine pw_aload_n hX rfl dL_law_147 (q := 148) rfl ?_
  refine pw_cvI0 hX dL_law_148 (q := 151) rfl mi_X3_undo ml_L_83 rcR ⟨rfl, rfl, by decide, by decide⟩ rfl (Nat.le_of_ble_eq_true rfl) (c_X3_undo hS1.1) ?_
  have hk4 := hS1.1.1
  rw [if_neg (show ¬ W1.1 8 0 1 = 0 by omega), if_neg (show ¬ W1.1 8 0 1 = 0 by omega), hU]
  have hS2 := WJ_undo (U := U) (U' := W1.1 0) hS1 hk1 (J_le hJ (show N ≤ N + 15 by omega) (Nat.le_refl _)) h5
  have hV2 : (wO (hK W1 (W1.1 8 0 1 - 1) W1.2) 0 (kCp (W1.1 0) (kCp U (w.1 0)))).1 0 = kCp (W1.1 0) (kCp U (w.1 0)) := wO_s _ _ _
  revert hS2 hV2
  generalize wO (hK W1 (W1.1 8 0 1 - 1) W1.2) 0 (kCp (W1.1 0) (kCp U (w.1 0))) = W2
  intro hS2 hV2
  have hVZ : bV (W2.1 0) := (J_b hS2.2.2.1 (by omega)).1
  refine pw_if_lt hX (tgt := 185) dL_law_151 (q := 154) rfl (by decide) (fun h => False.elim (by exact nI_pos (by omega) h)) (fun h_151 => ?_)
  refine pw_aload_n hX rfl dL_law_154 (q := 155) rfl ?_
  refine pw_iconst hX (k := 3) rfl (by decide) dL_law_155 (q := 156) rfl ?_
  refine pw_cvI1 hX dL_law_156 (q := 159) rfl mi_X3_count ml_L_15 rcR ⟨rfl, rfl, by decide, by decide⟩ rfl (Nat.le_of_ble_eq_true rfl) (c_X3_count hVZ) ?_
  rw [hV2, qCnt_3, Cp_0 _ _ (by decide), Cp_0 _ _ (by decide)]
  refine pw_iload_n hX rfl dL_law_159 (q := 160) rfl ?_
  refine pw_icmpN_ne hX (by first | omega) (by first | omega) (tgt := 185) dL_law_160 (q := 163) rfl (by decide) (fun h => False.elim (by first | omega | exact absurd h (by decide) | exact h (by decide) | exact h rfl)) (fun h_160 => ?_)
  refine pw_aload_n hX rfl dL_law_163 (q := 164) rfl ?_
  refine pw_bipush hX (k := 6) (by decide) dL_law_164 (q := 166) rfl ?_
  refine pw_cvI1 hX dL_law_166 (q := 169) rfl mi_X3_count ml_L_15 rcR ⟨rfl, rfl, by decide, by decide⟩ rfl (Nat.le_of_ble_eq_true rfl) (c_X3_count hVZ) ?_
  rw [hV2, qCnt_6, nTo_cp, nTo_cp, Cp_0 _ _ (by decide), Cp_0 _ _ (by decide)]
  refine pw_iload hX rfl dL_law_169 (q := 171) rfl ?_
  refine pw_icmpN_ne hX (by first | omega) (by first | omega) (tgt := 185) dL_law_171 (q := 174) rfl (by decide) (fun h => False.elim (by first | omega | exact absurd h (by decide) | exact h (by decide) | exact h rfl)) (fun h_171 => ?_)
  refine pw_aload_n hX rfl dL_law_174 (q := 175) rfl ?_
  refine pw_csI1 hX dL_law_175 (q := 178) rfl mi_L_holds ml_L_67 ⟨rfl, rfl, by decide, by decide⟩ rfl (Nat.le_of_ble_eq_true rfl) (c_L_holds hS2.2.2.1 (by omega)) ?_
  refine pw_ifN_eq hX (by first | omega) (tgt := 185) dL_law_178 (q := 181) rfl (by decide) (fun h => False.elim (by first | omega | exact absurd h (by decide) | exact h (by decide) | exact h rfl)) (fun h_178 => ?_)
  refine pw_iconst hX (k := 1) rfl (by decide) dL_law_181 (q := 182) rfl ?_
  refine pw_goto hX (tgt := 186) dL_law_182 (by decide) ?_
  exact pw_ireturn hX dL_law_186 ⟨_, rfl, by decide⟩ rfl
set_option maxHeartbeats 2000000 in
set_option maxRecDepth 20000 in
theorem law_b {l : Launch} {g : Geo} {X : Nat → Nat → (Nat → Int32) → Prop} {b L : Nat} {xs : Nat → Int32} {p : Program} {e : Env} {s : State} {m : MethodId} {args : Array Value} {below : List Frame} {meth : Method} {c : Code} {Q : State → Prop} {A : Nat → Prop} (h : GX l g RL cL_law room_1 5 (some .boolean) (fun r _ => r = some (.int 1)) X 124 4809 p e s m args below meth c Q A) (hX0 : X b L xs) (hL : L ≤ 260) (hf : g_fl g = false) : ∀ k, k ≤ 34 → ∀ w, WJ w k (12 * k) 5 → PW l g room_1 5 p e s m args below meth c Q A (90 + k) (3993 + 24 * k) w 53 [some (.ref b), some (.ref (g_ad g 10 0)), some (.int (nI (1))), some (.int (nI (k))), none] [] := by
  refine loopUp (fun k hk ih => ?_)
  intro w hW
  have hX := h.gd (by decide) (n := 90 + k) (k := 3993 + 24 * k) (by omega) (by omega)
  refine pw_iload_n hX rfl dL_law_53 (q := 54) rfl ?_
  refine pw_bipush hX (k := 34) (by decide) dL_law_54 (q := 56) rfl ?_
  refine pw_icmpN_ge hX (by omega) (by decide) (tgt := 94) dL_law_56 (q := 59) rfl (by decide) (fun h_56 => ?_) (fun h_56 => ?_)
  · obtain rfl : k = 34 := by omega
    exact law_c hX hW (by decide)
  · refine pw_iload_n hX rfl dL_law_59 (q := 60) rfl ?_
    refine pw_ifN_eq hX (by decide) (tgt := 94) dL_law_60 (q := 63) rfl (by decide) (fun h => absurd h (by decide)) (fun _ => ?_)
    refine pw_aload_n hX rfl dL_law_63 (q := 64) rfl ?_
    refine pw_aload_n hX rfl dL_law_64 (q := 65) rfl ?_
    refine pw_iload_n hX rfl dL_law_65 (q := 66) rfl ?_
    refine pw_csS hX hX0 (As := [.ref b, .int (nI k)]) (st := [.ref (g_ad g 10 0)]) dL_law_66 (q := 69) rfl mi_L_cell ml_L_75 ⟨rfl, rfl, by decide, by decide⟩ rfl rfl (Nat.le_of_ble_eq_true rfl) (c_L_cell hL (by omega)) (fun r w2 hr => ?_)
    obtain ⟨⟨y, hy, rfl⟩, rfl⟩ := hr
    refine pw_csN h (mc' := 1) (ms' := 24) (by omega) (by omega) (As := [.ref (g_ad g 10 0), .int (nI y)]) (st := []) dL_law_69 (q := 72) rfl mi_L_acts ml_L_79 ⟨rfl, rfl, by decide, by decide⟩ rfl rfl (Nat.le_of_ble_eq_true rfl) (fun sz => c_L_acts hf hW (by omega) (by omega) hy sz) (fun r w3 hr => ?_)
    obtain ⟨rfl, hW3⟩ := hr
    have hX2 := h.gd (by decide) (n := 90 + k + 1) (k := 3993 + 24 * k + 24) (by omega) (by omega)
    refine pw_ifN_eq hX2 (by decide) (tgt := 86) dL_law_72 (q := 75) rfl (by decide) (fun h => absurd h (by decide)) (fun _ => ?_)
    refine pw_aload_n hX2 rfl dL_law_75 (q := 76) rfl ?_
    refine pw_csI1 hX2 dL_law_76 (q := 79) rfl mi_L_holds ml_L_67 ⟨rfl, rfl, by decide, by decide⟩ rfl (Nat.le_of_ble_eq_true rfl) (c_L_holds hW3.2.2.1 (by omega)) ?_
    refine pw_ifN_eq hX2 (by decide) (tgt := 86) dL_law_79 (q := 82) rfl (by decide) (fun h => absurd h (by decide)) (fun _ => ?_)
    refine pw_iconst hX2 (k := 1) rfl (by decide) dL_law_82 (q := 83) rfl ?_
    refine pw_goto hX2 (tgt := 87) dL_law_83 (by decide) ?_
    refine pw_istore_n hX2 (by decide) dL_law_87 (q := 88) rfl ?_
    refine pw_iinc hX2 rfl (by decide) (inc1 _) dL_law_88 (q := 91) rfl ?_
    refine pw_goto hX2 (tgt := 53) dL_law_91 (by decide) ?_
    have i2 := ih (by omega) w3 (WJ_le hW3 (Nat.le_refl _) (by omega))
    rw [show 3993 + 24 * (k + 1) = 3993 + 24 * k + 24 by omega] at i2
    exact i2
set_option maxHeartbeats 2000000 in
set_option maxRecDepth 20000 in
theorem kAdd_at {V : Nat → Nat → Nat} (h : V 0 0 < 7) : kAdd V = (vU V 0 0 (V 0 0 + 1), nI (V 0 0)) := if_pos h
set_option maxHeartbeats 2000000 in
set_option maxRecDepth 20000 in
theorem law_a {l : Launch} {g : Geo} {X : Nat → Nat → (Nat → Int32) → Prop} {b L : Nat} {xs : Nat → Int32} {p : Program} {e : Env} {s : State} {m : MethodId} {args : Array Value} {below : List Frame} {meth : Method} {c : Code} {Q : State → Prop} {A : Nat → Prop} (h : GX l g RL cL_law room_1 5 (some .boolean) (fun r _ => r = some (.int 1)) X 124 4809 p e s m args below meth c Q A) (hX0 : X b L xs) (hL : L ≤ 260) (hf : g_fl g = false) : ∀ k, k ≤ 5 → ∀ w, WJ w 0 0 k → PW l g room_1 5 p e s m args below meth c Q A (90) (3993) w 15 [some (.ref b), some (.ref (g_ad g 10 0)), some (.int (nI (1))), some (.int (nI (k))), none] [] := by
  have hX := h.gd (by decide) (n := 90) (k := 3993) (by omega) (by omega)
  refine loopUp (fun k hk ih => ?_)
  intro w hW
  have hJ := hW.2.2.1
  have hk0 : w.1 0 0 0 = k := hW.2.2.2
  have hV : bV (w.1 0) := (J_b hJ (by omega)).1
  refine pw_iload_n hX rfl dL_law_15 (q := 16) rfl ?_
  refine pw_iconst hX (k := 5) rfl (by decide) dL_law_16 (q := 17) rfl ?_
  refine pw_icmpN_ge hX (by omega) (by decide) (tgt := 51) dL_law_17 (q := 20) rfl (by decide) (fun h_17 => ?_) (fun h_17 => ?_)
  · obtain rfl : k = 5 := by omega
    refine pw_iconst hX (k := 0) rfl (by decide) dL_law_51 (q := 52) rfl ?_
    refine pw_istore_n hX (by decide) dL_law_52 (q := 53) rfl ?_
    exact law_b h hX0 hL hf 0 (by omega) w hW
  · refine pw_iload_n hX rfl dL_law_20 (q := 21) rfl ?_
    refine pw_ifN_eq hX (by decide) (tgt := 51) dL_law_21 (q := 24) rfl (by decide) (fun h => absurd h (by decide)) (fun _ => ?_)
    refine pw_aload_n hX rfl dL_law_24 (q := 25) rfl ?_
    refine pw_cvI0 hX dL_law_25 (q := 28) rfl mi_X3_villager ml_L_71 rcR ⟨rfl, rfl, by decide, by decide⟩ rfl (Nat.le_of_ble_eq_true rfl) (c_X3_villager hW.1 hV) ?_
    rw [kAdd_at (show w.1 0 0 0 < 7 by omega)]
    have hr := WJ_rec (V' := vU (w.1 0) 0 0 (w.1 0 0 0 + 1)) (N' := 0) (G' := 0) (n' := k + 1) hW (J_add hJ (by omega)) (by rw [vUe, if_pos rfl, hk0]) (nI (w.1 0 0 0))
    obtain ⟨hS1, hV1⟩ := hr
    try dsimp only
    revert hS1 hV1
    generalize Rec (wO (Prep w) 0 (vU (w.1 0) 0 0 (w.1 0 0 0 + 1))) (nI (w.1 0 0 0)) = W1
    intro hS1 hV1
    refine pw_iload_n hX rfl dL_law_28 (q := 29) rfl ?_
    refine pw_icmpN_ne hX (by omega) (by omega) (tgt := 43) dL_law_29 (q := 32) rfl (by decide) (fun h => absurd hk0 h) (fun _ => ?_)
    refine pw_aload_n hX rfl dL_law_32 (q := 33) rfl ?_
    refine pw_csI1 hX dL_law_33 (q := 36) rfl mi_L_holds ml_L_67 ⟨rfl, rfl, by decide, by decide⟩ rfl (Nat.le_of_ble_eq_true rfl) (c_L_holds hS1.2.2.1 (by omega)) ?_
    refine pw_ifN_eq hX (by decide) (tgt := 43) dL_law_36 (q := 39) rfl (by decide) (fun h => absurd h (by decide)) (fun _ => ?_)
    refine pw_iconst hX (k := 1) rfl (by decide) dL_law_39 (q := 40) rfl ?_
    refine pw_goto hX (tgt := 44) dL_law_40 (by decide) ?_
    refine pw_istore_n hX (by decide) dL_law_44 (q := 45) rfl ?_
    refine pw_iinc hX rfl (by decide) (inc1 _) dL_law_45 (q := 48) rfl ?_
    refine pw_goto hX (tgt := 15) dL_law_48 (by decide) ?_
    exact ih (by omega) W1 hS1
