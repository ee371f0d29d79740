/-! THE LAW: rank, holds -/
abbrev rm_L_rank : Room := { frames := 3, cells := 0, slots := 0, locals := 69 }
set_option maxHeartbeats 800000 in
set_option maxRecDepth 20000 in
theorem c_L_rank {l : Launch} {g : Geo} {w : WD} {v t : Nat} (hV : bV (w.1 0)) (hv : v < w.1 0 0 0) (ht : t < 12) : CtI l g yL_rank cL_rank 3 (some .int) rm_L_rank [.ref (g_ad g 10 0), .int (nI v), .int (nI t)] (w) (nI (w.1 0 5 (v * 12 + t))) (w) := by
  refine ct_of mi_L_rank.2.2.2.2 ⟨rfl, rfl⟩ (List.forall_mem_cons.mpr ⟨rfl, List.forall_mem_cons.mpr ⟨rfl, List.forall_mem_cons.mpr ⟨rfl, fun _ h => absurd h List.not_mem_nil⟩⟩⟩) (Nat.le_of_ble_eq_true rfl) (fun P hX => ?_)
  replace hX : Gd l g RL cL_rank rm_L_rank 3 (some .int) _ _ P := hX
  show P (w) 0 [some (.ref (g_ad g 10 0)), some (.int (nI v)), some (.int (nI t))] []
  have hn := hV.2.2.2.1
  by_cases hz : w.1 0 5 (v * 12 + t) = 0
  · skip
    refine pw_aload_n hX rfl dL_rank_0 (q := 1) rfl ?_
    refine pw_iload_n hX rfl dL_rank_1 (q := 2) rfl ?_
    refine pw_iload_n hX rfl dL_rank_2 (q := 3) rfl ?_
    refine pw_iconst hX (k := 0) rfl (by decide) dL_rank_3 (q := 4) rfl ?_
    refine pw_cvI3 hX dL_rank_4 (q := 7) rfl mi_X3_entryOf ml_L_9 rcR ⟨rfl, rfl, by decide, by decide⟩ rfl (Nat.le_of_ble_eq_true rfl) (c_X3_entryOf hV) ?_
    rw [qEO_z hn hv ht (by decide) hz]
    refine pw_if_ge hX (tgt := 14) dL_rank_7 (q := 10) rfl (by decide) (fun h => False.elim (by exact absurd h (by decide))) (fun h_7 => ?_)
    refine pw_iconst hX (k := 0) rfl (by decide) dL_rank_10 (q := 11) rfl ?_
    refine pw_goto hX (tgt := 32) dL_rank_11 (by decide) ?_
    refine pw_ireturn hX dL_rank_32 ⟨_, rfl, rfl⟩ ⟨congrArg (fun z => some (Value.int z)) ?_, ?_⟩
    · first | (rw [hz]) | exact congrArg nI (show 8 * (w.1 0 5 (v * 12 + t) / 8) + w.1 0 5 (v * 12 + t) % 8 = w.1 0 5 (v * 12 + t) by omega)
    · rfl
  · skip
    refine pw_aload_n hX rfl dL_rank_0 (q := 1) rfl ?_
    refine pw_iload_n hX rfl dL_rank_1 (q := 2) rfl ?_
    refine pw_iload_n hX rfl dL_rank_2 (q := 3) rfl ?_
    refine pw_iconst hX (k := 0) rfl (by decide) dL_rank_3 (q := 4) rfl ?_
    refine pw_cvI3 hX dL_rank_4 (q := 7) rfl mi_X3_entryOf ml_L_9 rcR ⟨rfl, rfl, by decide, by decide⟩ rfl (Nat.le_of_ble_eq_true rfl) (c_X3_entryOf hV) ?_
    rw [qEO_0 hn hv ht hz]
    refine pw_if_ge hX (tgt := 14) dL_rank_7 (q := 10) rfl (by decide) (fun h_7 => ?_) (fun h => False.elim (by revert h; cases kTmb (w.1 0) (v * 12 + t) <;> decide))
    refine pw_bipush hX (k := 8) (by decide) dL_rank_14 (q := 16) rfl ?_
    refine pw_aload_n hX rfl dL_rank_16 (q := 17) rfl ?_
    refine pw_iload_n hX rfl dL_rank_17 (q := 18) rfl ?_
    refine pw_iload_n hX rfl dL_rank_18 (q := 19) rfl ?_
    refine pw_iconst hX (k := 1) rfl (by decide) dL_rank_19 (q := 20) rfl ?_
    refine pw_cvI3 hX dL_rank_20 (q := 23) rfl mi_X3_entryOf ml_L_9 rcR ⟨rfl, rfl, by decide, by decide⟩ rfl (Nat.le_of_ble_eq_true rfl) (c_X3_entryOf hV) ?_
    rw [qEO_1 hn hv ht hz]
    refine pw_imulN hX dL_rank_23 (q := 24) rfl ?_
    refine pw_aload_n hX rfl dL_rank_24 (q := 25) rfl ?_
    refine pw_iload_n hX rfl dL_rank_25 (q := 26) rfl ?_
    refine pw_iload_n hX rfl dL_rank_26 (q := 27) rfl ?_
    refine pw_iconst hX (k := 2) rfl (by decide) dL_rank_27 (q := 28) rfl ?_
    refine pw_cvI3 hX dL_rank_28 (q := 31) rfl mi_X3_entryOf ml_L_9 rcR ⟨rfl, rfl, by decide, by decide⟩ rfl (Nat.le_of_ble_eq_true rfl) (c_X3_entryOf hV) ?_
    rw [qEO_2 hn hv ht hz]
    refine pw_iaddN hX dL_rank_31 (q := 32) rfl ?_
    refine pw_ireturn hX dL_rank_32 ⟨_, rfl, rfl⟩ ⟨congrArg (fun z => some (Value.int z)) ?_, ?_⟩
    · first | (rw [hz]) | exact congrArg nI (show 8 * (w.1 0 5 (v * 12 + t) / 8) + w.1 0 5 (v * 12 + t) % 8 = w.1 0 5 (v * 12 + t) by omega)
    · rfl
abbrev rm_L_holds : Room := { frames := 5, cells := 0, slots := 0, locals := 110 }
set_option maxHeartbeats 4000000 in
set_option maxRecDepth 20000 in
theorem c_L_holds {l : Launch} {g : Geo} {w : WD} {N G : Nat} (hJ : J (w.1 0) N G) (hN : N ≤ 2 ^ 20) : CtI l g yL_holds cL_holds 14 (some .boolean) rm_L_holds [.ref (g_ad g 10 0)] (w) (nI 1) (w) := by
  refine ct_of mi_L_holds.2.2.2.2 ⟨rfl, rfl⟩ (List.forall_mem_cons.mpr ⟨rfl, fun _ h => absurd h List.not_mem_nil⟩) (Nat.le_of_ble_eq_true rfl) (fun P hX => ?_)
  replace hX : Gd l g RL cL_holds rm_L_holds 14 (some .boolean) _ _ P := hX
  show P (w) 0 [some (.ref (g_ad g 10 0)), none, none, none, none, none, none, none, none, none, none, none, none, none] []
  have hP := J_b hJ hN
  have hV := hP.1
  obtain ⟨hn, j1, j2, j3, j4, j5, j6, j7⟩ := hJ
  refine pw_iconst hX (k := 0) rfl (by decide) dL_holds_0 (q := 1) rfl ?_
  refine pw_istore_n hX (by decide) dL_holds_1 (q := 2) rfl ?_
  refine pw_iconst hX (k := 0) rfl (by decide) dL_holds_2 (q := 3) rfl ?_
  refine pw_istore_n hX (by decide) dL_holds_3 (q := 4) rfl ?_
  refine pw_iconst hX (k := 0) rfl (by decide) dL_holds_4 (q := 5) rfl ?_
  refine pw_istore_n hX (by decide) dL_holds_5 (q := 6) rfl ?_
  refine pw_iconst hX (k := 0) rfl (by decide) dL_holds_6 (q := 7) rfl ?_
  refine pw_istore hX (by decide) dL_holds_7 (q := 9) rfl ?_
  refine pw_iconst hX (k := 0) rfl (by decide) dL_holds_9 (q := 10) rfl ?_
  refine pw_istore hX (by decide) dL_holds_10 (q := 12) rfl ?_
  refine pw_iconst hX (k := 0) rfl (by decide) dL_holds_12 (q := 13) rfl ?_
  refine pw_istore hX (by decide) dL_holds_13 (q := 15) rfl ?_
  refine pw_iconst hX (k := 1) rfl (by decide) dL_holds_15 (q := 16) rfl ?_
  refine pw_istore hX (by decide) dL_holds_16 (q := 18) rfl ?_
  refine pw_iconst hX (k := 0) rfl (by decide) dL_holds_18 (q := 19) rfl ?_
  refine pw_istore hX (by decide) dL_holds_19 (q := 21) rfl ?_
  suffices L : ∀ v, v ≤ w.1 0 0 0 → P w 21 [some (.ref (g_ad g 10 0)), some (.int (nI (cnt (fun x => decide (w.1 0 1 x = 0)) (v)))), some (.int (nI (cnt (fun x => decide (w.1 0 1 x = 1)) (v)))), some (.int (nI (nRu (w.1 0) (v)))), some (.int (nI (nTo (w.1 0) (v)))), some (.int (nI (nDe (w.1 0) (v)))), some (.int (nI (nGh (w.1 0) (v)))), some (.int (nI (1))), some (.int (nI (v))), none, none, none, none, none] [] by exact L 0 (Nat.zero_le _)
  refine loopUp (fun v hv ih => ?_)
  refine pw_iload hX rfl dL_holds_21 (q := 23) rfl ?_
  refine pw_aload_n hX rfl dL_holds_23 (q := 24) rfl ?_
  refine pw_iconst hX (k := 0) rfl (by decide) dL_holds_24 (q := 25) rfl ?_
  refine pw_cvI1 hX dL_holds_25 (q := 28) rfl mi_X3_count ml_L_15 rcR ⟨rfl, rfl, by decide, by decide⟩ rfl (Nat.le_of_ble_eq_true rfl) (c_X3_count hV) ?_
  rw [qCnt_0]
  refine pw_icmpN_ge hX (by first | omega | exact bits12 _ | exact lt31_and (bits12 _) | (rw [dr_0]; decide) | (rw [gone_0 hz]; decide)) (by first | omega | exact bits12 _ | exact lt31_and (bits12 _) | (rw [dr_0]; decide) | (rw [gone_0 hz]; decide)) (tgt := 410) dL_holds_28 (q := 31) rfl (by decide) (fun h_28 => ?_) (fun h_28 => ?_)
  · obtain rfl : v = w.1 0 0 0 := by omega
    refine pw_iload hX rfl dL_holds_410 (q := 412) rfl ?_
    refine pw_ifN_eq hX (by first | omega | exact bits12 _ | exact lt31_and (bits12 _) | (rw [dr_0]; decide) | (rw [gone_0 hz]; decide)) (tgt := 479) dL_holds_412 (q := 415) rfl (by decide) (fun h => False.elim (by first | omega | exact absurd h (by decide) | exact h (by decide) | exact h rfl)) (fun h_412 => ?_)
    refine pw_aload_n hX rfl dL_holds_415 (q := 416) rfl ?_
    refine pw_iconst hX (k := 1) rfl (by decide) dL_holds_416 (q := 417) rfl ?_
    refine pw_cvI1 hX dL_holds_417 (q := 420) rfl mi_X3_count ml_L_15 rcR ⟨rfl, rfl, by decide, by decide⟩ rfl (Nat.le_of_ble_eq_true rfl) (c_X3_count hV) ?_
    rw [qCnt_1]
    refine pw_iload_n hX rfl dL_holds_420 (q := 421) rfl ?_
    refine pw_icmp_ne hX (tgt := 479) dL_holds_421 (q := 424) rfl (by decide) (fun h => False.elim (by first | omega | exact absurd h (by decide) | exact h (by decide) | exact h rfl)) (fun h_421 => ?_)
    refine pw_aload_n hX rfl dL_holds_424 (q := 425) rfl ?_
    refine pw_iconst hX (k := 2) rfl (by decide) dL_holds_425 (q := 426) rfl ?_
    refine pw_cvI1 hX dL_holds_426 (q := 429) rfl mi_X3_count ml_L_15 rcR ⟨rfl, rfl, by decide, by decide⟩ rfl (Nat.le_of_ble_eq_true rfl) (c_X3_count hV) ?_
    rw [qCnt_2]
    refine pw_iload_n hX rfl dL_holds_429 (q := 430) rfl ?_
    refine pw_icmp_ne hX (tgt := 479) dL_holds_430 (q := 433) rfl (by decide) (fun h => False.elim (by first | omega | exact absurd h (by decide) | exact h (by decide) | exact h rfl)) (fun h_430 => ?_)
    refine pw_aload_n hX rfl dL_holds_433 (q := 434) rfl ?_
    refine pw_iconst hX (k := 5) rfl (by decide) dL_holds_434 (q := 435) rfl ?_
    refine pw_cvI1 hX dL_holds_435 (q := 438) rfl mi_X3_count ml_L_15 rcR ⟨rfl, rfl, by decide, by decide⟩ rfl (Nat.le_of_ble_eq_true rfl) (c_X3_count hV) ?_
    rw [qCnt_5]
    refine pw_iload_n hX rfl dL_holds_438 (q := 439) rfl ?_
    refine pw_icmp_ne hX (tgt := 479) dL_holds_439 (q := 442) rfl (by decide) (fun h => False.elim (by first | omega | exact absurd h (by decide) | exact h (by decide) | exact h rfl)) (fun h_439 => ?_)
    refine pw_aload_n hX rfl dL_holds_442 (q := 443) rfl ?_
    refine pw_bipush hX (k := 6) (by decide) dL_holds_443 (q := 445) rfl ?_
    refine pw_cvI1 hX dL_holds_445 (q := 448) rfl mi_X3_count ml_L_15 rcR ⟨rfl, rfl, by decide, by decide⟩ rfl (Nat.le_of_ble_eq_true rfl) (c_X3_count hV) ?_
    rw [qCnt_6]
    refine pw_iload hX rfl dL_holds_448 (q := 450) rfl ?_
    refine pw_icmp_ne hX (tgt := 479) dL_holds_450 (q := 453) rfl (by decide) (fun h => False.elim (by first | omega | exact absurd h (by decide) | exact h (by decide) | exact h rfl)) (fun h_450 => ?_)
    refine pw_aload_n hX rfl dL_holds_453 (q := 454) rfl ?_
    refine pw_bipush hX (k := 7) (by decide) dL_holds_454 (q := 456) rfl ?_
    refine pw_cvI1 hX dL_holds_456 (q := 459) rfl mi_X3_count ml_L_15 rcR ⟨rfl, rfl, by decide, by decide⟩ rfl (Nat.le_of_ble_eq_true rfl) (c_X3_count hV) ?_
    rw [qCnt_7]
    refine pw_iload hX rfl dL_holds_459 (q := 461) rfl ?_
    refine pw_icmp_ne hX (tgt := 479) dL_holds_461 (q := 464) rfl (by decide) (fun h => False.elim (by first | omega | exact absurd h (by decide) | exact h (by decide) | exact h rfl)) (fun h_461 => ?_)
    refine pw_aload_n hX rfl dL_holds_464 (q := 465) rfl ?_
    refine pw_bipush hX (k := 8) (by decide) dL_holds_465 (q := 467) rfl ?_
    refine pw_cvI1 hX dL_holds_467 (q := 470) rfl mi_X3_count ml_L_15 rcR ⟨rfl, rfl, by decide, by decide⟩ rfl (Nat.le_of_ble_eq_true rfl) (c_X3_count hV) ?_
    rw [qCnt_8]
    refine pw_iload hX rfl dL_holds_470 (q := 472) rfl ?_
    refine pw_icmp_ne hX (tgt := 479) dL_holds_472 (q := 475) rfl (by decide) (fun h => False.elim (by first | omega | exact absurd h (by decide) | exact h (by decide) | exact h rfl)) (fun h_472 => ?_)
    refine pw_iconst hX (k := 1) rfl (by decide) dL_holds_475 (q := 476) rfl ?_
    refine pw_goto hX (tgt := 480) dL_holds_476 (by decide) ?_
    refine pw_ireturn hX dL_holds_480 ⟨_, rfl, by first | exact bI_nar _ | decide | rfl⟩ ⟨congrArg (fun z => some (Value.int z)) ?_, ?_⟩
    · rfl
    · rfl
  · have hlv : v < w.1 0 0 0 := by omega
    refine pw_iload hX rfl dL_holds_31 (q := 33) rfl ?_
    refine pw_ifN_eq hX (by first | omega | exact bits12 _ | exact lt31_and (bits12 _) | (rw [dr_0]; decide) | (rw [gone_0 hz]; decide)) (tgt := 410) dL_holds_33 (q := 36) rfl (by decide) (fun h => False.elim (by first | omega | exact absurd h (by decide) | exact h (by decide) | exact h rfl)) (fun h_33 => ?_)
    refine jn (A := ∀ t, t ≤ 12 → P w 177 [some (.ref (g_ad g 10 0)), some (.int (nI (cnt (fun x => decide (w.1 0 1 x = 0)) (v + 1)))), some (.int (nI (cnt (fun x => decide (w.1 0 1 x = 1)) (v + 1)))), some (.int (nI (nRu (w.1 0) v + cnt (fun x => kRum (w.1 0) (v * 12 + x)) t))), some (.int (nI (nTo (w.1 0) v + cnt (fun x => kTmb (w.1 0) (v * 12 + x)) t))), some (.int (nI (nDe (w.1 0) v + cnt (fun x => kDead (w.1 0) v x) t))), some (.int (nI (nGh (w.1 0) (v + 1)))), some (.int (nI (1))), some (.int (nI (v))), some (.int (nI (w.1 0 1 v))), some (.int (nI (bits (fun t => kRum (w.1 0) (v * 12 + t)) 12))), some (.int (nI (bits (fun t => kTmb (w.1 0) (v * 12 + t)) 12))), some (.int (nI (t))), none] []) ?_ (fun J36 => ?_)
    · refine loopUp (fun t ht ih2 => ?_)
      refine pw_iload hX rfl dL_holds_177 (q := 179) rfl ?_
      refine pw_bipush hX (k := 12) (by decide) dL_holds_179 (q := 181) rfl ?_
      refine pw_icmpN_ge hX (by first | omega | exact bits12 _ | exact lt31_and (bits12 _) | (rw [dr_0]; decide) | (rw [gone_0 hz]; decide)) (by first | omega | exact bits12 _ | exact lt31_and (bits12 _) | (rw [dr_0]; decide) | (rw [gone_0 hz]; decide)) (tgt := 404) dL_holds_181 (q := 184) rfl (by decide) (fun h_181 => ?_) (fun h_181 => ?_)
      · refine pw_iinc hX rfl (by decide) (inc1 _) dL_holds_404 (q := 407) rfl ?_
        refine pw_goto hX (tgt := 21) dL_holds_407 (by decide) ?_
        obtain rfl : t = 12 := by omega
        exact pw_fg hX (lle_cons (lle_cons (lle_cons (lle_cons (lle_cons (lle_cons (lle_cons (lle_cons (lle_cons (lle_none (lle_none (lle_none (lle_none (lle_none lle_nil)))))))))))))) (ih (by omega))
      · have hlt : t < 12 := by omega
        refine pw_iload hX rfl dL_holds_184 (q := 186) rfl ?_
        refine pw_ifN_eq hX (by first | omega | exact bits12 _ | exact lt31_and (bits12 _) | (rw [dr_0]; decide) | (rw [gone_0 hz]; decide)) (tgt := 404) dL_holds_186 (q := 189) rfl (by decide) (fun h => False.elim (by first | omega | exact absurd h (by decide) | exact h (by decide) | exact h rfl)) (fun h_186 => ?_)
        rcases ent3 (w.1 0) (v * 12 + t) with ⟨he, hr, hT⟩ | ⟨he, hr, hT⟩ | ⟨he, hr, hT⟩
        · skip
          refine pw_aload_n hX rfl dL_holds_189 (q := 190) rfl ?_
          refine pw_iload hX rfl dL_holds_190 (q := 192) rfl ?_
          refine pw_iload hX rfl dL_holds_192 (q := 194) rfl ?_
          refine pw_iconst hX (k := 0) rfl (by decide) dL_holds_194 (q := 195) rfl ?_
          refine pw_cvI3 hX dL_holds_195 (q := 198) rfl mi_X3_entryOf ml_L_9 rcR ⟨rfl, rfl, by decide, by decide⟩ rfl (Nat.le_of_ble_eq_true rfl) (c_X3_entryOf hV) ?_
          rw [qEO_z hn hlv hlt (by decide) he]
          refine pw_istore hX (by decide) dL_holds_198 (q := 200) rfl ?_
          refine pw_iload_n hX rfl dL_holds_200 (q := 201) rfl ?_
          refine pw_iload hX rfl dL_holds_201 (q := 203) rfl ?_
          refine pw_if_ne hX (tgt := 210) dL_holds_203 (q := 206) rfl (by decide) (fun h_203 => ?_) (fun h => False.elim (by first | omega | exact absurd h (by decide) | exact h (by decide) | exact h rfl))
          refine pw_iconst hX (k := 0) rfl (by decide) dL_holds_210 (q := 211) rfl ?_
          refine pw_iaddN hX dL_holds_211 (q := 212) rfl ?_
          refine pw_istore_n hX (by decide) dL_holds_212 (q := 213) rfl ?_
          refine pw_iload hX rfl dL_holds_213 (q := 215) rfl ?_
          refine pw_iload hX rfl dL_holds_215 (q := 217) rfl ?_
          refine pw_iconst hX (k := 1) rfl (by decide) dL_holds_217 (q := 218) rfl ?_
          refine pw_icmp_ne hX (tgt := 225) dL_holds_218 (q := 221) rfl (by decide) (fun h_218 => ?_) (fun h => False.elim (by first | omega | exact absurd h (by decide) | exact h (by decide) | exact h rfl))
          refine pw_iconst hX (k := 0) rfl (by decide) dL_holds_225 (q := 226) rfl ?_
          refine pw_iaddN hX dL_holds_226 (q := 227) rfl ?_
          refine pw_istore hX (by decide) dL_holds_227 (q := 229) rfl ?_
          refine pw_iload hX rfl dL_holds_229 (q := 231) rfl ?_
          refine pw_aload_n hX rfl dL_holds_231 (q := 232) rfl ?_
          refine pw_iload hX rfl dL_holds_232 (q := 234) rfl ?_
          refine pw_cvI1 hX dL_holds_234 (q := 237) rfl mi_X3_dead ml_L_23 rcR ⟨rfl, rfl, by decide, by decide⟩ rfl (Nat.le_of_ble_eq_true rfl) (c_X3_dead hV) ?_
          rw [qDead_at hn hlv]
          refine pw_iload hX rfl dL_holds_237 (q := 239) rfl ?_
          refine pw_ishrN hX (by exact bits12 _) (by omega) dL_holds_239 (q := 240) rfl ?_
          refine pw_iconst hX (k := 1) rfl (by decide) dL_holds_240 (q := 241) rfl ?_
          refine pw_iandN hX dL_holds_241 (q := 242) rfl ?_
          rw [Nat.and_one_is_mod, bit_at _ hlt]
          refine pw_iaddN hX dL_holds_242 (q := 243) rfl ?_
          refine pw_istore hX (by decide) dL_holds_243 (q := 245) rfl ?_
          refine pw_iload hX rfl dL_holds_245 (q := 247) rfl ?_
          refine pw_iload hX rfl dL_holds_247 (q := 249) rfl ?_
          refine pw_ishrN hX (by exact bits12 _) (by omega) dL_holds_249 (q := 250) rfl ?_
          refine pw_iconst hX (k := 1) rfl (by decide) dL_holds_250 (q := 251) rfl ?_
          refine pw_iandN hX dL_holds_251 (q := 252) rfl ?_
          first | rw [Nat.and_one_is_mod, bit_at _ hlt, if_pos hr] | rw [Nat.and_one_is_mod, bit_at _ hlt, if_neg (show ¬ kRum (w.1 0) (v * 12 + t) = true by rw [hr]; decide)]
          refine pw_iload hX rfl dL_holds_252 (q := 254) rfl ?_
          refine pw_if_ne hX (tgt := 261) dL_holds_254 (q := 257) rfl (by decide) (fun h_254 => ?_) (fun h => False.elim (by first | omega | exact absurd h (by decide) | exact h (by decide) | exact h rfl))
          refine pw_iconst hX (k := 0) rfl (by decide) dL_holds_261 (q := 262) rfl ?_
          refine pw_icmpN_ne hX (by first | omega | exact bits12 _ | exact lt31_and (bits12 _) | (rw [dr_0]; decide) | (rw [gone_0 hz]; decide)) (by first | omega | exact bits12 _ | exact lt31_and (bits12 _) | (rw [dr_0]; decide) | (rw [gone_0 hz]; decide)) (tgt := 395) dL_holds_262 (q := 265) rfl (by decide) (fun h => False.elim (by first | omega | exact absurd h (by decide) | exact h (by decide) | exact h rfl)) (fun h_262 => ?_)
          refine pw_iload hX rfl dL_holds_265 (q := 267) rfl ?_
          refine pw_iload hX rfl dL_holds_267 (q := 269) rfl ?_
          refine pw_ishrN hX (by exact bits12 _) (by omega) dL_holds_269 (q := 270) rfl ?_
          refine pw_iconst hX (k := 1) rfl (by decide) dL_holds_270 (q := 271) rfl ?_
          refine pw_iandN hX dL_holds_271 (q := 272) rfl ?_
          first | rw [Nat.and_one_is_mod, bit_at _ hlt, if_pos hT] | rw [Nat.and_one_is_mod, bit_at _ hlt, if_neg (show ¬ kTmb (w.1 0) (v * 12 + t) = true by rw [hT]; decide)]
          refine pw_iload hX rfl dL_holds_272 (q := 274) rfl ?_
          refine pw_iconst hX (k := 1) rfl (by decide) dL_holds_274 (q := 275) rfl ?_
          refine pw_icmp_ne hX (tgt := 282) dL_holds_275 (q := 278) rfl (by decide) (fun h_275 => ?_) (fun h => False.elim (by first | omega | exact absurd h (by decide) | exact h (by decide) | exact h rfl))
          refine pw_iconst hX (k := 0) rfl (by decide) dL_holds_282 (q := 283) rfl ?_
          refine pw_icmpN_ne hX (by first | omega | exact bits12 _ | exact lt31_and (bits12 _) | (rw [dr_0]; decide) | (rw [gone_0 hz]; decide)) (by first | omega | exact bits12 _ | exact lt31_and (bits12 _) | (rw [dr_0]; decide) | (rw [gone_0 hz]; decide)) (tgt := 395) dL_holds_283 (q := 286) rfl (by decide) (fun h => False.elim (by first | omega | exact absurd h (by decide) | exact h (by decide) | exact h rfl)) (fun h_283 => ?_)
          refine pw_iload hX rfl dL_holds_286 (q := 288) rfl ?_
          refine pw_iconst hX (k := 1) rfl (by decide) dL_holds_288 (q := 289) rfl ?_
          refine pw_icmp_ne hX (tgt := 354) dL_holds_289 (q := 292) rfl (by decide) (fun h_289 => ?_) (fun h => False.elim (by first | omega | exact absurd h (by decide) | exact h (by decide) | exact h rfl))
          refine pw_iload hX rfl dL_holds_354 (q := 356) rfl ?_
          refine pw_if_lt hX (tgt := 391) dL_holds_356 (q := 359) rfl (by decide) (fun h_356 => ?_) (fun h => False.elim (by first | omega | exact absurd h (by decide) | exact h (by decide) | exact h rfl))
          refine pw_iconst hX (k := 1) rfl (by decide) dL_holds_391 (q := 392) rfl ?_
          refine pw_goto hX (tgt := 396) dL_holds_392 (by decide) ?_
          refine pw_istore hX (by decide) dL_holds_396 (q := 398) rfl ?_
          refine pw_iinc hX rfl (by decide) (inc1 _) dL_holds_398 (q := 401) rfl ?_
          refine pw_goto hX (tgt := 177) dL_holds_401 (by decide) ?_
          exact pw_fg hX (lle_cons (lle_cons (lle_cons (lle_cons (lle_cons (lle_cons (lle_cons (lle_cons (lle_cons (lle_cons (lle_cons (lle_cons (lle_cons (lle_none lle_nil)))))))))))))) (pw_eq rfl (by simp [cnt_s, he, hr, hT, Nat.add_assoc]) rfl (ih2 (by omega)))
        · have hj := j5 v t (by omega) hlt he
          have h4 := (j4 v (by omega)).2.1
          refine pw_aload_n hX rfl dL_holds_189 (q := 190) rfl ?_
          refine pw_iload hX rfl dL_holds_190 (q := 192) rfl ?_
          refine pw_iload hX rfl dL_holds_192 (q := 194) rfl ?_
          refine pw_iconst hX (k := 0) rfl (by decide) dL_holds_194 (q := 195) rfl ?_
          refine pw_cvI3 hX dL_holds_195 (q := 198) rfl mi_X3_entryOf ml_L_9 rcR ⟨rfl, rfl, by decide, by decide⟩ rfl (Nat.le_of_ble_eq_true rfl) (c_X3_entryOf hV) ?_
          rw [qEO_0 hn hlv hlt he, hT, bI_f]
          refine pw_istore hX (by decide) dL_holds_198 (q := 200) rfl ?_
          refine pw_iload_n hX rfl dL_holds_200 (q := 201) rfl ?_
          refine pw_iload hX rfl dL_holds_201 (q := 203) rfl ?_
          refine pw_ifN_ne hX (by first | omega | exact bits12 _ | exact lt31_and (bits12 _) | (rw [dr_0]; decide) | (rw [gone_0 hz]; decide)) (tgt := 210) dL_holds_203 (q := 206) rfl (by decide) (fun h => False.elim (by first | omega | exact absurd h (by decide) | exact h (by decide) | exact h rfl)) (fun h_203 => ?_)
          refine pw_iconst hX (k := 1) rfl (by decide) dL_holds_206 (q := 207) rfl ?_
          refine pw_goto hX (tgt := 211) dL_holds_207 (by decide) ?_
          refine pw_iaddN hX dL_holds_211 (q := 212) rfl ?_
          refine pw_istore_n hX (by decide) dL_holds_212 (q := 213) rfl ?_
          refine pw_iload hX rfl dL_holds_213 (q := 215) rfl ?_
          refine pw_iload hX rfl dL_holds_215 (q := 217) rfl ?_
          refine pw_iconst hX (k := 1) rfl (by decide) dL_holds_217 (q := 218) rfl ?_
          refine pw_icmpN_ne hX (by first | omega | exact bits12 _ | exact lt31_and (bits12 _) | (rw [dr_0]; decide) | (rw [gone_0 hz]; decide)) (by first | omega | exact bits12 _ | exact lt31_and (bits12 _) | (rw [dr_0]; decide) | (rw [gone_0 hz]; decide)) (tgt := 225) dL_holds_218 (q := 221) rfl (by decide) (fun h_218 => ?_) (fun h => False.elim (by first | omega | exact absurd h (by decide) | exact h (by decide) | exact h rfl))
          refine pw_iconst hX (k := 0) rfl (by decide) dL_holds_225 (q := 226) rfl ?_
          refine pw_iaddN hX dL_holds_226 (q := 227) rfl ?_
          refine pw_istore hX (by decide) dL_holds_227 (q := 229) rfl ?_
          refine pw_iload hX rfl dL_holds_229 (q := 231) rfl ?_
          refine pw_aload_n hX rfl dL_holds_231 (q := 232) rfl ?_
          refine pw_iload hX rfl dL_holds_232 (q := 234) rfl ?_
          refine pw_cvI1 hX dL_holds_234 (q := 237) rfl mi_X3_dead ml_L_23 rcR ⟨rfl, rfl, by decide, by decide⟩ rfl (Nat.le_of_ble_eq_true rfl) (c_X3_dead hV) ?_
          rw [qDead_at hn hlv]
          refine pw_iload hX rfl dL_holds_237 (q := 239) rfl ?_
          refine pw_ishrN hX (by exact bits12 _) (by omega) dL_holds_239 (q := 240) rfl ?_
          refine pw_iconst hX (k := 1) rfl (by decide) dL_holds_240 (q := 241) rfl ?_
          refine pw_iandN hX dL_holds_241 (q := 242) rfl ?_
          rw [Nat.and_one_is_mod, bit_at _ hlt]
          refine pw_iaddN hX dL_holds_242 (q := 243) rfl ?_
          refine pw_istore hX (by decide) dL_holds_243 (q := 245) rfl ?_
          refine pw_iload hX rfl dL_holds_245 (q := 247) rfl ?_
          refine pw_iload hX rfl dL_holds_247 (q := 249) rfl ?_
          refine pw_ishrN hX (by exact bits12 _) (by omega) dL_holds_249 (q := 250) rfl ?_
          refine pw_iconst hX (k := 1) rfl (by decide) dL_holds_250 (q := 251) rfl ?_
          refine pw_iandN hX dL_holds_251 (q := 252) rfl ?_
          first | rw [Nat.and_one_is_mod, bit_at _ hlt, if_pos hr] | rw [Nat.and_one_is_mod, bit_at _ hlt, if_neg (show ¬ kRum (w.1 0) (v * 12 + t) = true by rw [hr]; decide)]
          refine pw_iload hX rfl dL_holds_252 (q := 254) rfl ?_
          refine pw_ifN_ne hX (by first | omega | exact bits12 _ | exact lt31_and (bits12 _) | (rw [dr_0]; decide) | (rw [gone_0 hz]; decide)) (tgt := 261) dL_holds_254 (q := 257) rfl (by decide) (fun h => False.elim (by first | omega | exact absurd h (by decide) | exact h (by decide) | exact h rfl)) (fun h_254 => ?_)
          refine pw_iconst hX (k := 1) rfl (by decide) dL_holds_257 (q := 258) rfl ?_
          refine pw_goto hX (tgt := 262) dL_holds_258 (by decide) ?_
          refine pw_icmpN_ne hX (by first | omega | exact bits12 _ | exact lt31_and (bits12 _) | (rw [dr_0]; decide) | (rw [gone_0 hz]; decide)) (by first | omega | exact bits12 _ | exact lt31_and (bits12 _) | (rw [dr_0]; decide) | (rw [gone_0 hz]; decide)) (tgt := 395) dL_holds_262 (q := 265) rfl (by decide) (fun h => False.elim (by first | omega | exact absurd h (by decide) | exact h (by decide) | exact h rfl)) (fun h_262 => ?_)
          refine pw_iload hX rfl dL_holds_265 (q := 267) rfl ?_
          refine pw_iload hX rfl dL_holds_267 (q := 269) rfl ?_
          refine pw_ishrN hX (by exact bits12 _) (by omega) dL_holds_269 (q := 270) rfl ?_
          refine pw_iconst hX (k := 1) rfl (by decide) dL_holds_270 (q := 271) rfl ?_
          refine pw_iandN hX dL_holds_271 (q := 272) rfl ?_
          first | rw [Nat.and_one_is_mod, bit_at _ hlt, if_pos hT] | rw [Nat.and_one_is_mod, bit_at _ hlt, if_neg (show ¬ kTmb (w.1 0) (v * 12 + t) = true by rw [hT]; decide)]
          refine pw_iload hX rfl dL_holds_272 (q := 274) rfl ?_
          refine pw_iconst hX (k := 1) rfl (by decide) dL_holds_274 (q := 275) rfl ?_
          refine pw_icmpN_ne hX (by first | omega | exact bits12 _ | exact lt31_and (bits12 _) | (rw [dr_0]; decide) | (rw [gone_0 hz]; decide)) (by first | omega | exact bits12 _ | exact lt31_and (bits12 _) | (rw [dr_0]; decide) | (rw [gone_0 hz]; decide)) (tgt := 282) dL_holds_275 (q := 278) rfl (by decide) (fun h_275 => ?_) (fun h => False.elim (by first | omega | exact absurd h (by decide) | exact h (by decide) | exact h rfl))
          refine pw_iconst hX (k := 0) rfl (by decide) dL_holds_282 (q := 283) rfl ?_
          refine pw_icmpN_ne hX (by first | omega | exact bits12 _ | exact lt31_and (bits12 _) | (rw [dr_0]; decide) | (rw [gone_0 hz]; decide)) (by first | omega | exact bits12 _ | exact lt31_and (bits12 _) | (rw [dr_0]; decide) | (rw [gone_0 hz]; decide)) (tgt := 395) dL_holds_283 (q := 286) rfl (by decide) (fun h => False.elim (by first | omega | exact absurd h (by decide) | exact h (by decide) | exact h rfl)) (fun h_283 => ?_)
          refine pw_iload hX rfl dL_holds_286 (q := 288) rfl ?_
          refine pw_iconst hX (k := 1) rfl (by decide) dL_holds_288 (q := 289) rfl ?_
          refine pw_icmpN_ne hX (by first | omega | exact bits12 _ | exact lt31_and (bits12 _) | (rw [dr_0]; decide) | (rw [gone_0 hz]; decide)) (by first | omega | exact bits12 _ | exact lt31_and (bits12 _) | (rw [dr_0]; decide) | (rw [gone_0 hz]; decide)) (tgt := 354) dL_holds_289 (q := 292) rfl (by decide) (fun h_289 => ?_) (fun h => False.elim (by first | omega | exact absurd h (by decide) | exact h (by decide) | exact h rfl))
          refine pw_iload hX rfl dL_holds_354 (q := 356) rfl ?_
          refine pw_if_lt hX (tgt := 391) dL_holds_356 (q := 359) rfl (by decide) (fun h => False.elim (by first | omega | exact absurd h (by decide) | exact h (by decide) | exact h rfl)) (fun h_356 => ?_)
          refine pw_aload_n hX rfl dL_holds_359 (q := 360) rfl ?_
          refine pw_iload hX rfl dL_holds_360 (q := 362) rfl ?_
          refine pw_iload hX rfl dL_holds_362 (q := 364) rfl ?_
          refine pw_iconst hX (k := 1) rfl (by decide) dL_holds_364 (q := 365) rfl ?_
          refine pw_cvI3 hX dL_holds_365 (q := 368) rfl mi_X3_entryOf ml_L_9 rcR ⟨rfl, rfl, by decide, by decide⟩ rfl (Nat.le_of_ble_eq_true rfl) (c_X3_entryOf hV) ?_
          rw [qEO_1 hn hlv hlt he]
          refine pw_iconst hX (k := 1) rfl (by decide) dL_holds_368 (q := 369) rfl ?_
          refine pw_icmpN_lt hX (by first | omega | exact bits12 _ | exact lt31_and (bits12 _) | (rw [dr_0]; decide) | (rw [gone_0 hz]; decide)) (by first | omega | exact bits12 _ | exact lt31_and (bits12 _) | (rw [dr_0]; decide) | (rw [gone_0 hz]; decide)) (tgt := 395) dL_holds_369 (q := 372) rfl (by decide) (fun h => False.elim (by first | omega | exact absurd h (by decide) | exact h (by decide) | exact h rfl)) (fun h_369 => ?_)
          refine pw_aload_n hX rfl dL_holds_372 (q := 373) rfl ?_
          refine pw_iload hX rfl dL_holds_373 (q := 375) rfl ?_
          refine pw_iload hX rfl dL_holds_375 (q := 377) rfl ?_
          refine pw_iconst hX (k := 1) rfl (by decide) dL_holds_377 (q := 378) rfl ?_
          refine pw_cvI3 hX dL_holds_378 (q := 381) rfl mi_X3_entryOf ml_L_9 rcR ⟨rfl, rfl, by decide, by decide⟩ rfl (Nat.le_of_ble_eq_true rfl) (c_X3_entryOf hV) ?_
          rw [qEO_1 hn hlv hlt he]
          refine pw_aload_n hX rfl dL_holds_381 (q := 382) rfl ?_
          refine pw_iload hX rfl dL_holds_382 (q := 384) rfl ?_
          refine pw_iconst hX (k := 1) rfl (by decide) dL_holds_384 (q := 385) rfl ?_
          refine pw_cvI2 hX dL_holds_385 (q := 388) rfl mi_X3_villagerOf ml_L_19 rcR ⟨rfl, rfl, by decide, by decide⟩ rfl (Nat.le_of_ble_eq_true rfl) (c_X3_villagerOf hV) ?_
          rw [qOf_1 hn hlv]
          refine pw_icmpN_gt hX (by first | omega | exact bits12 _ | exact lt31_and (bits12 _) | (rw [dr_0]; decide) | (rw [gone_0 hz]; decide)) (by first | omega | exact bits12 _ | exact lt31_and (bits12 _) | (rw [dr_0]; decide) | (rw [gone_0 hz]; decide)) (tgt := 395) dL_holds_388 (q := 391) rfl (by decide) (fun h => False.elim (by first | omega | exact absurd h (by decide) | exact h (by decide) | exact h rfl)) (fun h_388 => ?_)
          refine pw_iconst hX (k := 1) rfl (by decide) dL_holds_391 (q := 392) rfl ?_
          refine pw_goto hX (tgt := 396) dL_holds_392 (by decide) ?_
          refine pw_istore hX (by decide) dL_holds_396 (q := 398) rfl ?_
          refine pw_iinc hX rfl (by decide) (inc1 _) dL_holds_398 (q := 401) rfl ?_
          refine pw_goto hX (tgt := 177) dL_holds_401 (by decide) ?_
          exact pw_fg hX (lle_cons (lle_cons (lle_cons (lle_cons (lle_cons (lle_cons (lle_cons (lle_cons (lle_cons (lle_cons (lle_cons (lle_cons (lle_cons (lle_none lle_nil)))))))))))))) (pw_eq rfl (by simp [cnt_s, he, hr, hT, Nat.add_assoc]) rfl (ih2 (by omega)))
        · have hj := j5 v t (by omega) hlt he
          have h6 := j6 (v * 12 + t) (by omega)
          have h4 := (j4 v (by omega)).2.1
          have hs := hj.2.2.2 (kTmb_0 hT).2
          refine pw_aload_n hX rfl dL_holds_189 (q := 190) rfl ?_
          refine pw_iload hX rfl dL_holds_190 (q := 192) rfl ?_
          refine pw_iload hX rfl dL_holds_192 (q := 194) rfl ?_
          refine pw_iconst hX (k := 0) rfl (by decide) dL_holds_194 (q := 195) rfl ?_
          refine pw_cvI3 hX dL_holds_195 (q := 198) rfl mi_X3_entryOf ml_L_9 rcR ⟨rfl, rfl, by decide, by decide⟩ rfl (Nat.le_of_ble_eq_true rfl) (c_X3_entryOf hV) ?_
          rw [qEO_0 hn hlv hlt he, hT, bI_t]
          refine pw_istore hX (by decide) dL_holds_198 (q := 200) rfl ?_
          refine pw_iload_n hX rfl dL_holds_200 (q := 201) rfl ?_
          refine pw_iload hX rfl dL_holds_201 (q := 203) rfl ?_
          refine pw_ifN_ne hX (by first | omega | exact bits12 _ | exact lt31_and (bits12 _) | (rw [dr_0]; decide) | (rw [gone_0 hz]; decide)) (tgt := 210) dL_holds_203 (q := 206) rfl (by decide) (fun h_203 => ?_) (fun h => False.elim (by first | omega | exact absurd h (by decide) | exact h (by decide) | exact h rfl))
          refine pw_iconst hX (k := 0) rfl (by decide) dL_holds_210 (q := 211) rfl ?_
          refine pw_iaddN hX dL_holds_211 (q := 212) rfl ?_
          refine pw_istore_n hX (by decide) dL_holds_212 (q := 213) rfl ?_
          refine pw_iload hX rfl dL_holds_213 (q := 215) rfl ?_
          refine pw_iload hX rfl dL_holds_215 (q := 217) rfl ?_
          refine pw_iconst hX (k := 1) rfl (by decide) dL_holds_217 (q := 218) rfl ?_
          refine pw_icmpN_ne hX (by first | omega | exact bits12 _ | exact lt31_and (bits12 _) | (rw [dr_0]; decide) | (rw [gone_0 hz]; decide)) (by first | omega | exact bits12 _ | exact lt31_and (bits12 _) | (rw [dr_0]; decide) | (rw [gone_0 hz]; decide)) (tgt := 225) dL_holds_218 (q := 221) rfl (by decide) (fun h => False.elim (by first | omega | exact absurd h (by decide) | exact h (by decide) | exact h rfl)) (fun h_218 => ?_)
          refine pw_iconst hX (k := 1) rfl (by decide) dL_holds_221 (q := 222) rfl ?_
          refine pw_goto hX (tgt := 226) dL_holds_222 (by decide) ?_
          refine pw_iaddN hX dL_holds_226 (q := 227) rfl ?_
          refine pw_istore hX (by decide) dL_holds_227 (q := 229) rfl ?_
          refine pw_iload hX rfl dL_holds_229 (q := 231) rfl ?_
          refine pw_aload_n hX rfl dL_holds_231 (q := 232) rfl ?_
          refine pw_iload hX rfl dL_holds_232 (q := 234) rfl ?_
          refine pw_cvI1 hX dL_holds_234 (q := 237) rfl mi_X3_dead ml_L_23 rcR ⟨rfl, rfl, by decide, by decide⟩ rfl (Nat.le_of_ble_eq_true rfl) (c_X3_dead hV) ?_
          rw [qDead_at hn hlv]
          refine pw_iload hX rfl dL_holds_237 (q := 239) rfl ?_
          refine pw_ishrN hX (by exact bits12 _) (by omega) dL_holds_239 (q := 240) rfl ?_
          refine pw_iconst hX (k := 1) rfl (by decide) dL_holds_240 (q := 241) rfl ?_
          refine pw_iandN hX dL_holds_241 (q := 242) rfl ?_
          rw [Nat.and_one_is_mod, bit_at _ hlt]
          refine pw_iaddN hX dL_holds_242 (q := 243) rfl ?_
          refine pw_istore hX (by decide) dL_holds_243 (q := 245) rfl ?_
          refine pw_iload hX rfl dL_holds_245 (q := 247) rfl ?_
          refine pw_iload hX rfl dL_holds_247 (q := 249) rfl ?_
          refine pw_ishrN hX (by exact bits12 _) (by omega) dL_holds_249 (q := 250) rfl ?_
          refine pw_iconst hX (k := 1) rfl (by decide) dL_holds_250 (q := 251) rfl ?_
          refine pw_iandN hX dL_holds_251 (q := 252) rfl ?_
          first | rw [Nat.and_one_is_mod, bit_at _ hlt, if_pos hr] | rw [Nat.and_one_is_mod, bit_at _ hlt, if_neg (show ¬ kRum (w.1 0) (v * 12 + t) = true by rw [hr]; decide)]
          refine pw_iload hX rfl dL_holds_252 (q := 254) rfl ?_
          refine pw_ifN_ne hX (by first | omega | exact bits12 _ | exact lt31_and (bits12 _) | (rw [dr_0]; decide) | (rw [gone_0 hz]; decide)) (tgt := 261) dL_holds_254 (q := 257) rfl (by decide) (fun h_254 => ?_) (fun h => False.elim (by first | omega | exact absurd h (by decide) | exact h (by decide) | exact h rfl))
          refine pw_iconst hX (k := 0) rfl (by decide) dL_holds_261 (q := 262) rfl ?_
          refine pw_icmpN_ne hX (by first | omega | exact bits12 _ | exact lt31_and (bits12 _) | (rw [dr_0]; decide) | (rw [gone_0 hz]; decide)) (by first | omega | exact bits12 _ | exact lt31_and (bits12 _) | (rw [dr_0]; decide) | (rw [gone_0 hz]; decide)) (tgt := 395) dL_holds_262 (q := 265) rfl (by decide) (fun h => False.elim (by first | omega | exact absurd h (by decide) | exact h (by decide) | exact h rfl)) (fun h_262 => ?_)
          refine pw_iload hX rfl dL_holds_265 (q := 267) rfl ?_
          refine pw_iload hX rfl dL_holds_267 (q := 269) rfl ?_
          refine pw_ishrN hX (by exact bits12 _) (by omega) dL_holds_269 (q := 270) rfl ?_
          refine pw_iconst hX (k := 1) rfl (by decide) dL_holds_270 (q := 271) rfl ?_
          refine pw_iandN hX dL_holds_271 (q := 272) rfl ?_
          first | rw [Nat.and_one_is_mod, bit_at _ hlt, if_pos hT] | rw [Nat.and_one_is_mod, bit_at _ hlt, if_neg (show ¬ kTmb (w.1 0) (v * 12 + t) = true by rw [hT]; decide)]
          refine pw_iload hX rfl dL_holds_272 (q := 274) rfl ?_
          refine pw_iconst hX (k := 1) rfl (by decide) dL_holds_274 (q := 275) rfl ?_
          refine pw_icmpN_ne hX (by first | omega | exact bits12 _ | exact lt31_and (bits12 _) | (rw [dr_0]; decide) | (rw [gone_0 hz]; decide)) (by first | omega | exact bits12 _ | exact lt31_and (bits12 _) | (rw [dr_0]; decide) | (rw [gone_0 hz]; decide)) (tgt := 282) dL_holds_275 (q := 278) rfl (by decide) (fun h => False.elim (by first | omega | exact absurd h (by decide) | exact h (by decide) | exact h rfl)) (fun h_275 => ?_)
          refine pw_iconst hX (k := 1) rfl (by decide) dL_holds_278 (q := 279) rfl ?_
          refine pw_goto hX (tgt := 283) dL_holds_279 (by decide) ?_
          refine pw_icmpN_ne hX (by first | omega | exact bits12 _ | exact lt31_and (bits12 _) | (rw [dr_0]; decide) | (rw [gone_0 hz]; decide)) (by first | omega | exact bits12 _ | exact lt31_and (bits12 _) | (rw [dr_0]; decide) | (rw [gone_0 hz]; decide)) (tgt := 395) dL_holds_283 (q := 286) rfl (by decide) (fun h => False.elim (by first | omega | exact absurd h (by decide) | exact h (by decide) | exact h rfl)) (fun h_283 => ?_)
          refine pw_iload hX rfl dL_holds_286 (q := 288) rfl ?_
          refine pw_iconst hX (k := 1) rfl (by decide) dL_holds_288 (q := 289) rfl ?_
          refine pw_icmpN_ne hX (by first | omega | exact bits12 _ | exact lt31_and (bits12 _) | (rw [dr_0]; decide) | (rw [gone_0 hz]; decide)) (by first | omega | exact bits12 _ | exact lt31_and (bits12 _) | (rw [dr_0]; decide) | (rw [gone_0 hz]; decide)) (tgt := 354) dL_holds_289 (q := 292) rfl (by decide) (fun h => False.elim (by first | omega | exact absurd h (by decide) | exact h (by decide) | exact h rfl)) (fun h_289 => ?_)
          refine pw_aload_n hX rfl dL_holds_292 (q := 293) rfl ?_
          refine pw_iload hX rfl dL_holds_293 (q := 295) rfl ?_
          refine pw_iload hX rfl dL_holds_295 (q := 297) rfl ?_
          refine pw_bipush hX (k := 6) (by decide) dL_holds_297 (q := 299) rfl ?_
          refine pw_cvI3 hX dL_holds_299 (q := 302) rfl mi_X3_entryOf ml_L_9 rcR ⟨rfl, rfl, by decide, by decide⟩ rfl (Nat.le_of_ble_eq_true rfl) (c_X3_entryOf hV) ?_
          rw [qEO_6 hn hlv hlt hT]
          refine pw_iload hX rfl dL_holds_302 (q := 304) rfl ?_
          refine pw_ishrN hX (by omega) (by omega) dL_holds_304 (q := 305) rfl ?_
          refine pw_iconst hX (k := 1) rfl (by decide) dL_holds_305 (q := 306) rfl ?_
          refine pw_iandN hX dL_holds_306 (q := 307) rfl ?_
          rw [Nat.and_one_is_mod, bit_tb hs.1]
          refine pw_iconst hX (k := 1) rfl (by decide) dL_holds_307 (q := 308) rfl ?_
          refine pw_icmpN_ne hX (by first | omega | exact bits12 _ | exact lt31_and (bits12 _) | (rw [dr_0]; decide) | (rw [gone_0 hz]; decide)) (by first | omega | exact bits12 _ | exact lt31_and (bits12 _) | (rw [dr_0]; decide) | (rw [gone_0 hz]; decide)) (tgt := 395) dL_holds_308 (q := 311) rfl (by decide) (fun h => False.elim (by first | omega | exact absurd h (by decide) | exact h (by decide) | exact h rfl)) (fun h_308 => ?_)
          refine pw_aload_n hX rfl dL_holds_311 (q := 312) rfl ?_
          refine pw_iload hX rfl dL_holds_312 (q := 314) rfl ?_
          refine pw_iload hX rfl dL_holds_314 (q := 316) rfl ?_
          refine pw_bipush hX (k := 6) (by decide) dL_holds_316 (q := 318) rfl ?_
          refine pw_cvI3 hX dL_holds_318 (q := 321) rfl mi_X3_entryOf ml_L_9 rcR ⟨rfl, rfl, by decide, by decide⟩ rfl (Nat.le_of_ble_eq_true rfl) (c_X3_entryOf hV) ?_
          rw [qEO_6 hn hlv hlt hT]
          refine pw_aload_n hX rfl dL_holds_321 (q := 322) rfl ?_
          refine pw_iload hX rfl dL_holds_322 (q := 324) rfl ?_
          refine pw_iload hX rfl dL_holds_324 (q := 326) rfl ?_
          refine pw_iconst hX (k := 2) rfl (by decide) dL_holds_326 (q := 327) rfl ?_
          refine pw_cvI3 hX dL_holds_327 (q := 330) rfl mi_X3_entryOf ml_L_9 rcR ⟨rfl, rfl, by decide, by decide⟩ rfl (Nat.le_of_ble_eq_true rfl) (c_X3_entryOf hV) ?_
          rw [qEO_2 hn hlv hlt he]
          refine pw_ishrN hX (by omega) (by omega) dL_holds_330 (q := 331) rfl ?_
          refine pw_iconst hX (k := 1) rfl (by decide) dL_holds_331 (q := 332) rfl ?_
          refine pw_iandN hX dL_holds_332 (q := 333) rfl ?_
          rw [Nat.and_one_is_mod, bit_tb hs.2]
          refine pw_iconst hX (k := 1) rfl (by decide) dL_holds_333 (q := 334) rfl ?_
          refine pw_icmpN_ne hX (by first | omega | exact bits12 _ | exact lt31_and (bits12 _) | (rw [dr_0]; decide) | (rw [gone_0 hz]; decide)) (by first | omega | exact bits12 _ | exact lt31_and (bits12 _) | (rw [dr_0]; decide) | (rw [gone_0 hz]; decide)) (tgt := 395) dL_holds_334 (q := 337) rfl (by decide) (fun h => False.elim (by first | omega | exact absurd h (by decide) | exact h (by decide) | exact h rfl)) (fun h_334 => ?_)
          refine pw_aload_n hX rfl dL_holds_337 (q := 338) rfl ?_
          refine pw_iload hX rfl dL_holds_338 (q := 340) rfl ?_
          refine pw_iload hX rfl dL_holds_340 (q := 342) rfl ?_
          refine pw_iconst hX (k := 5) rfl (by decide) dL_holds_342 (q := 343) rfl ?_
          refine pw_cvI3 hX dL_holds_343 (q := 346) rfl mi_X3_entryOf ml_L_9 rcR ⟨rfl, rfl, by decide, by decide⟩ rfl (Nat.le_of_ble_eq_true rfl) (c_X3_entryOf hV) ?_
          rw [qEO_5 hn hlv hlt hT]
          refine pw_aload_n hX rfl dL_holds_346 (q := 347) rfl ?_
          refine pw_iconst hX (k := 3) rfl (by decide) dL_holds_347 (q := 348) rfl ?_
          refine pw_cvI1 hX dL_holds_348 (q := 351) rfl mi_X3_count ml_L_15 rcR ⟨rfl, rfl, by decide, by decide⟩ rfl (Nat.le_of_ble_eq_true rfl) (c_X3_count hV) ?_
          rw [qCnt_3]
          refine pw_icmpN_gt hX (by first | omega | exact bits12 _ | exact lt31_and (bits12 _) | (rw [dr_0]; decide) | (rw [gone_0 hz]; decide)) (by first | omega | exact bits12 _ | exact lt31_and (bits12 _) | (rw [dr_0]; decide) | (rw [gone_0 hz]; decide)) (tgt := 395) dL_holds_351 (q := 354) rfl (by decide) (fun h => False.elim (by first | omega | exact absurd h (by decide) | exact h (by decide) | exact h rfl)) (fun h_351 => ?_)
          refine pw_iload hX rfl dL_holds_354 (q := 356) rfl ?_
          refine pw_if_lt hX (tgt := 391) dL_holds_356 (q := 359) rfl (by decide) (fun h => False.elim (by first | omega | exact absurd h (by decide) | exact h (by decide) | exact h rfl)) (fun h_356 => ?_)
          refine pw_aload_n hX rfl dL_holds_359 (q := 360) rfl ?_
          refine pw_iload hX rfl dL_holds_360 (q := 362) rfl ?_
          refine pw_iload hX rfl dL_holds_362 (q := 364) rfl ?_
          refine pw_iconst hX (k := 1) rfl (by decide) dL_holds_364 (q := 365) rfl ?_
          refine pw_cvI3 hX dL_holds_365 (q := 368) rfl mi_X3_entryOf ml_L_9 rcR ⟨rfl, rfl, by decide, by decide⟩ rfl (Nat.le_of_ble_eq_true rfl) (c_X3_entryOf hV) ?_
          rw [qEO_1 hn hlv hlt he]
          refine pw_iconst hX (k := 1) rfl (by decide) dL_holds_368 (q := 369) rfl ?_
          refine pw_icmpN_lt hX (by first | omega | exact bits12 _ | exact lt31_and (bits12 _) | (rw [dr_0]; decide) | (rw [gone_0 hz]; decide)) (by first | omega | exact bits12 _ | exact lt31_and (bits12 _) | (rw [dr_0]; decide) | (rw [gone_0 hz]; decide)) (tgt := 395) dL_holds_369 (q := 372) rfl (by decide) (fun h => False.elim (by first | omega | exact absurd h (by decide) | exact h (by decide) | exact h rfl)) (fun h_369 => ?_)
          refine pw_aload_n hX rfl dL_holds_372 (q := 373) rfl ?_
          refine pw_iload hX rfl dL_holds_373 (q := 375) rfl ?_
          refine pw_iload hX rfl dL_holds_375 (q := 377) rfl ?_
          refine pw_iconst hX (k := 1) rfl (by decide) dL_holds_377 (q := 378) rfl ?_
          refine pw_cvI3 hX dL_holds_378 (q := 381) rfl mi_X3_entryOf ml_L_9 rcR ⟨rfl, rfl, by decide, by decide⟩ rfl (Nat.le_of_ble_eq_true rfl) (c_X3_entryOf hV) ?_
          rw [qEO_1 hn hlv hlt he]
          refine pw_aload_n hX rfl dL_holds_381 (q := 382) rfl ?_
          refine pw_iload hX rfl dL_holds_382 (q := 384) rfl ?_
          refine pw_iconst hX (k := 1) rfl (by decide) dL_holds_384 (q := 385) rfl ?_
          refine pw_cvI2 hX dL_holds_385 (q := 388) rfl mi_X3_villagerOf ml_L_19 rcR ⟨rfl, rfl, by decide, by decide⟩ rfl (Nat.le_of_ble_eq_true rfl) (c_X3_villagerOf hV) ?_
          rw [qOf_1 hn hlv]
          refine pw_icmpN_gt hX (by first | omega | exact bits12 _ | exact lt31_and (bits12 _) | (rw [dr_0]; decide) | (rw [gone_0 hz]; decide)) (by first | omega | exact bits12 _ | exact lt31_and (bits12 _) | (rw [dr_0]; decide) | (rw [gone_0 hz]; decide)) (tgt := 395) dL_holds_388 (q := 391) rfl (by decide) (fun h => False.elim (by first | omega | exact absurd h (by decide) | exact h (by decide) | exact h rfl)) (fun h_388 => ?_)
          refine pw_iconst hX (k := 1) rfl (by decide) dL_holds_391 (q := 392) rfl ?_
          refine pw_goto hX (tgt := 396) dL_holds_392 (by decide) ?_
          refine pw_istore hX (by decide) dL_holds_396 (q := 398) rfl ?_
          refine pw_iinc hX rfl (by decide) (inc1 _) dL_holds_398 (q := 401) rfl ?_
          refine pw_goto hX (tgt := 177) dL_holds_401 (by decide) ?_
          exact pw_fg hX (lle_cons (lle_cons (lle_cons (lle_cons (lle_cons (lle_cons (lle_cons (lle_cons (lle_cons (lle_cons (lle_cons (lle_cons (lle_cons (lle_none lle_nil)))))))))))))) (pw_eq rfl (by simp [cnt_s, he, hr, hT, Nat.add_assoc]) rfl (ih2 (by omega)))
    · refine pw_aload_n hX rfl dL_holds_36 (q := 37) rfl ?_
      have hs4 := j4 v (by omega)
      rcases (show w.1 0 1 v = 0 ∨ w.1 0 1 v = 1 ∨ w.1 0 1 v = 2 by omega) with hst | hst | hst
      · skip
        refine pw_iload hX rfl dL_holds_37 (q := 39) rfl ?_
        refine pw_iconst hX (k := 0) rfl (by decide) dL_holds_39 (q := 40) rfl ?_
        refine pw_cvI2 hX dL_holds_40 (q := 43) rfl mi_X3_villagerOf ml_L_19 rcR ⟨rfl, rfl, by decide, by decide⟩ rfl (Nat.le_of_ble_eq_true rfl) (c_X3_villagerOf hV) ?_
        rw [qOf_0 hn hlv]
        refine pw_istore hX (by decide) dL_holds_43 (q := 45) rfl ?_
        refine pw_iload_n hX rfl dL_holds_45 (q := 46) rfl ?_
        refine pw_iload hX rfl dL_holds_46 (q := 48) rfl ?_
        refine pw_ifN_ne hX (by first | omega | exact bits12 _ | exact lt31_and (bits12 _) | (rw [dr_0]; decide) | (rw [gone_0 hz]; decide)) (tgt := 55) dL_holds_48 (q := 51) rfl (by decide) (fun h => False.elim (by first | omega | exact absurd h (by decide) | exact h (by decide) | exact h rfl)) (fun h_48 => ?_)
        refine pw_iconst hX (k := 1) rfl (by decide) dL_holds_51 (q := 52) rfl ?_
        refine pw_goto hX (tgt := 56) dL_holds_52 (by decide) ?_
        refine pw_iaddN hX dL_holds_56 (q := 57) rfl ?_
        refine pw_istore_n hX (by decide) dL_holds_57 (q := 58) rfl ?_
        refine pw_iload_n hX rfl dL_holds_58 (q := 59) rfl ?_
        refine pw_iload hX rfl dL_holds_59 (q := 61) rfl ?_
        refine pw_iconst hX (k := 1) rfl (by decide) dL_holds_61 (q := 62) rfl ?_
        refine pw_icmpN_ne hX (by first | omega | exact bits12 _ | exact lt31_and (bits12 _) | (rw [dr_0]; decide) | (rw [gone_0 hz]; decide)) (by first | omega | exact bits12 _ | exact lt31_and (bits12 _) | (rw [dr_0]; decide) | (rw [gone_0 hz]; decide)) (tgt := 69) dL_holds_62 (q := 65) rfl (by decide) (fun h_62 => ?_) (fun h => False.elim (by first | omega | exact absurd h (by decide) | exact h (by decide) | exact h rfl))
        refine pw_iconst hX (k := 0) rfl (by decide) dL_holds_69 (q := 70) rfl ?_
        refine pw_iaddN hX dL_holds_70 (q := 71) rfl ?_
        refine pw_istore_n hX (by decide) dL_holds_71 (q := 72) rfl ?_
        refine pw_iload hX rfl dL_holds_72 (q := 74) rfl ?_
        refine pw_aload_n hX rfl dL_holds_74 (q := 75) rfl ?_
        refine pw_iload hX rfl dL_holds_75 (q := 77) rfl ?_
        refine pw_iconst hX (k := 4) rfl (by decide) dL_holds_77 (q := 78) rfl ?_
        refine pw_cvI2 hX dL_holds_78 (q := 81) rfl mi_X3_villagerOf ml_L_19 rcR ⟨rfl, rfl, by decide, by decide⟩ rfl (Nat.le_of_ble_eq_true rfl) (c_X3_villagerOf hV) ?_
        rw [qOf_4 hn hlv]
        refine pw_iaddN hX dL_holds_81 (q := 82) rfl ?_
        refine pw_istore hX (by decide) dL_holds_82 (q := 84) rfl ?_
        refine pw_aload_n hX rfl dL_holds_84 (q := 85) rfl ?_
        refine pw_iload hX rfl dL_holds_85 (q := 87) rfl ?_
        refine pw_iconst hX (k := 2) rfl (by decide) dL_holds_87 (q := 88) rfl ?_
        refine pw_cvI2 hX dL_holds_88 (q := 91) rfl mi_X3_villagerOf ml_L_19 rcR ⟨rfl, rfl, by decide, by decide⟩ rfl (Nat.le_of_ble_eq_true rfl) (c_X3_villagerOf hV) ?_
        rw [qOf_2 hn hlv]
        refine pw_istore hX (by decide) dL_holds_91 (q := 93) rfl ?_
        refine pw_aload_n hX rfl dL_holds_93 (q := 94) rfl ?_
        refine pw_iload hX rfl dL_holds_94 (q := 96) rfl ?_
        refine pw_iconst hX (k := 3) rfl (by decide) dL_holds_96 (q := 97) rfl ?_
        refine pw_cvI2 hX dL_holds_97 (q := 100) rfl mi_X3_villagerOf ml_L_19 rcR ⟨rfl, rfl, by decide, by decide⟩ rfl (Nat.le_of_ble_eq_true rfl) (c_X3_villagerOf hV) ?_
        rw [qOf_3 hn hlv]
        refine pw_istore hX (by decide) dL_holds_100 (q := 102) rfl ?_
        refine pw_iload hX rfl dL_holds_102 (q := 104) rfl ?_
        refine pw_iload hX rfl dL_holds_104 (q := 106) rfl ?_
        refine pw_iandN hX dL_holds_106 (q := 107) rfl ?_
        rw [rt_0]
        refine pw_ifN_ne hX (by first | omega | exact bits12 _ | exact lt31_and (bits12 _) | (rw [dr_0]; decide) | (rw [gone_0 hz]; decide)) (tgt := 171) dL_holds_107 (q := 110) rfl (by decide) (fun h => False.elim (by first | omega | exact absurd h (by decide) | exact h (by decide) | exact h rfl)) (fun h_107 => ?_)
        refine pw_iload hX rfl dL_holds_110 (q := 112) rfl ?_
        refine pw_iconst hX (k := 2) rfl (by decide) dL_holds_112 (q := 113) rfl ?_
        refine pw_icmpN_lt hX (by first | omega | exact bits12 _ | exact lt31_and (bits12 _) | (rw [dr_0]; decide) | (rw [gone_0 hz]; decide)) (by first | omega | exact bits12 _ | exact lt31_and (bits12 _) | (rw [dr_0]; decide) | (rw [gone_0 hz]; decide)) (tgt := 124) dL_holds_113 (q := 116) rfl (by decide) (fun h_113 => ?_) (fun h => False.elim (by first | omega | exact absurd h (by decide) | exact h (by decide) | exact h rfl))
        refine pw_aload_n hX rfl dL_holds_124 (q := 125) rfl ?_
        refine pw_iload hX rfl dL_holds_125 (q := 127) rfl ?_
        refine pw_cvI1 hX dL_holds_127 (q := 130) rfl mi_X3_dead ml_L_23 rcR ⟨rfl, rfl, by decide, by decide⟩ rfl (Nat.le_of_ble_eq_true rfl) (c_X3_dead hV) ?_
        rw [qDead_at hn hlv]
        refine pw_iload hX rfl dL_holds_130 (q := 132) rfl ?_
        refine pw_iconstm hX dL_holds_132 (q := 133) rfl ?_
        refine pw_ixor hX dL_holds_133 (q := 134) rfl ?_
        refine pw_iand hX dL_holds_134 (q := 135) rfl ?_
        rw [n_an, dr_0]
        refine pw_ifN_ne hX (by first | omega | exact bits12 _ | exact lt31_and (bits12 _) | (rw [dr_0]; decide) | (rw [gone_0 hz]; decide)) (tgt := 171) dL_holds_135 (q := 138) rfl (by decide) (fun h => False.elim (by first | omega | exact absurd h (by decide) | exact h (by decide) | exact h rfl)) (fun h_135 => ?_)
        refine pw_aload_n hX rfl dL_holds_138 (q := 139) rfl ?_
        refine pw_iload hX rfl dL_holds_139 (q := 141) rfl ?_
        refine pw_iconst hX (k := 5) rfl (by decide) dL_holds_141 (q := 142) rfl ?_
        refine pw_cvI2 hX dL_holds_142 (q := 145) rfl mi_X3_villagerOf ml_L_19 rcR ⟨rfl, rfl, by decide, by decide⟩ rfl (Nat.le_of_ble_eq_true rfl) (c_X3_villagerOf hV) ?_
        rw [qOf_5 hn hlv, if_neg (by omega)]
        refine pw_if_lt hX (tgt := 152) dL_holds_145 (q := 148) rfl (by decide) (fun h_145 => ?_) (fun h => False.elim (by first | omega | exact absurd h (by decide) | exact h (by decide) | exact h rfl))
        refine pw_iconst hX (k := 0) rfl (by decide) dL_holds_152 (q := 153) rfl ?_
        refine pw_iload hX rfl dL_holds_153 (q := 155) rfl ?_
        refine pw_iconst hX (k := 1) rfl (by decide) dL_holds_155 (q := 156) rfl ?_
        refine pw_icmpN_ne hX (by first | omega | exact bits12 _ | exact lt31_and (bits12 _) | (rw [dr_0]; decide) | (rw [gone_0 hz]; decide)) (by first | omega | exact bits12 _ | exact lt31_and (bits12 _) | (rw [dr_0]; decide) | (rw [gone_0 hz]; decide)) (tgt := 163) dL_holds_156 (q := 159) rfl (by decide) (fun h_156 => ?_) (fun h => False.elim (by first | omega | exact absurd h (by decide) | exact h (by decide) | exact h rfl))
        refine pw_iconst hX (k := 0) rfl (by decide) dL_holds_163 (q := 164) rfl ?_
        refine pw_icmpN_ne hX (by first | omega | exact bits12 _ | exact lt31_and (bits12 _) | (rw [dr_0]; decide) | (rw [gone_0 hz]; decide)) (by first | omega | exact bits12 _ | exact lt31_and (bits12 _) | (rw [dr_0]; decide) | (rw [gone_0 hz]; decide)) (tgt := 171) dL_holds_164 (q := 167) rfl (by decide) (fun h => False.elim (by first | omega | exact absurd h (by decide) | exact h (by decide) | exact h rfl)) (fun h_164 => ?_)
        refine pw_iconst hX (k := 1) rfl (by decide) dL_holds_167 (q := 168) rfl ?_
        refine pw_goto hX (tgt := 172) dL_holds_168 (by decide) ?_
        refine pw_istore hX (by decide) dL_holds_172 (q := 174) rfl ?_
        refine pw_iconst hX (k := 0) rfl (by decide) dL_holds_174 (q := 175) rfl ?_
        refine pw_istore hX (by decide) dL_holds_175 (q := 177) rfl ?_
        exact pw_fg hX lle_rfl (pw_eq rfl (by simp [cnt_s, hst]; try rfl) rfl (J36 0 (Nat.zero_le _)))
      · skip
        refine pw_iload hX rfl dL_holds_37 (q := 39) rfl ?_
        refine pw_iconst hX (k := 0) rfl (by decide) dL_holds_39 (q := 40) rfl ?_
        refine pw_cvI2 hX dL_holds_40 (q := 43) rfl mi_X3_villagerOf ml_L_19 rcR ⟨rfl, rfl, by decide, by decide⟩ rfl (Nat.le_of_ble_eq_true rfl) (c_X3_villagerOf hV) ?_
        rw [qOf_0 hn hlv]
        refine pw_istore hX (by decide) dL_holds_43 (q := 45) rfl ?_
        refine pw_iload_n hX rfl dL_holds_45 (q := 46) rfl ?_
        refine pw_iload hX rfl dL_holds_46 (q := 48) rfl ?_
        refine pw_ifN_ne hX (by first | omega | exact bits12 _ | exact lt31_and (bits12 _) | (rw [dr_0]; decide) | (rw [gone_0 hz]; decide)) (tgt := 55) dL_holds_48 (q := 51) rfl (by decide) (fun h_48 => ?_) (fun h => False.elim (by first | omega | exact absurd h (by decide) | exact h (by decide) | exact h rfl))
        refine pw_iconst hX (k := 0) rfl (by decide) dL_holds_55 (q := 56) rfl ?_
        refine pw_iaddN hX dL_holds_56 (q := 57) rfl ?_
        refine pw_istore_n hX (by decide) dL_holds_57 (q := 58) rfl ?_
        refine pw_iload_n hX rfl dL_holds_58 (q := 59) rfl ?_
        refine pw_iload hX rfl dL_holds_59 (q := 61) rfl ?_
        refine pw_iconst hX (k := 1) rfl (by decide) dL_holds_61 (q := 62) rfl ?_
        refine pw_icmpN_ne hX (by first | omega | exact bits12 _ | exact lt31_and (bits12 _) | (rw [dr_0]; decide) | (rw [gone_0 hz]; decide)) (by first | omega | exact bits12 _ | exact lt31_and (bits12 _) | (rw [dr_0]; decide) | (rw [gone_0 hz]; decide)) (tgt := 69) dL_holds_62 (q := 65) rfl (by decide) (fun h => False.elim (by first | omega | exact absurd h (by decide) | exact h (by decide) | exact h rfl)) (fun h_62 => ?_)
        refine pw_iconst hX (k := 1) rfl (by decide) dL_holds_65 (q := 66) rfl ?_
        refine pw_goto hX (tgt := 70) dL_holds_66 (by decide) ?_
        refine pw_iaddN hX dL_holds_70 (q := 71) rfl ?_
        refine pw_istore_n hX (by decide) dL_holds_71 (q := 72) rfl ?_
        refine pw_iload hX rfl dL_holds_72 (q := 74) rfl ?_
        refine pw_aload_n hX rfl dL_holds_74 (q := 75) rfl ?_
        refine pw_iload hX rfl dL_holds_75 (q := 77) rfl ?_
        refine pw_iconst hX (k := 4) rfl (by decide) dL_holds_77 (q := 78) rfl ?_
        refine pw_cvI2 hX dL_holds_78 (q := 81) rfl mi_X3_villagerOf ml_L_19 rcR ⟨rfl, rfl, by decide, by decide⟩ rfl (Nat.le_of_ble_eq_true rfl) (c_X3_villagerOf hV) ?_
        rw [qOf_4 hn hlv]
        refine pw_iaddN hX dL_holds_81 (q := 82) rfl ?_
        refine pw_istore hX (by decide) dL_holds_82 (q := 84) rfl ?_
        refine pw_aload_n hX rfl dL_holds_84 (q := 85) rfl ?_
        refine pw_iload hX rfl dL_holds_85 (q := 87) rfl ?_
        refine pw_iconst hX (k := 2) rfl (by decide) dL_holds_87 (q := 88) rfl ?_
        refine pw_cvI2 hX dL_holds_88 (q := 91) rfl mi_X3_villagerOf ml_L_19 rcR ⟨rfl, rfl, by decide, by decide⟩ rfl (Nat.le_of_ble_eq_true rfl) (c_X3_villagerOf hV) ?_
        rw [qOf_2 hn hlv]
        refine pw_istore hX (by decide) dL_holds_91 (q := 93) rfl ?_
        refine pw_aload_n hX rfl dL_holds_93 (q := 94) rfl ?_
        refine pw_iload hX rfl dL_holds_94 (q := 96) rfl ?_
        refine pw_iconst hX (k := 3) rfl (by decide) dL_holds_96 (q := 97) rfl ?_
        refine pw_cvI2 hX dL_holds_97 (q := 100) rfl mi_X3_villagerOf ml_L_19 rcR ⟨rfl, rfl, by decide, by decide⟩ rfl (Nat.le_of_ble_eq_true rfl) (c_X3_villagerOf hV) ?_
        rw [qOf_3 hn hlv]
        refine pw_istore hX (by decide) dL_holds_100 (q := 102) rfl ?_
        refine pw_iload hX rfl dL_holds_102 (q := 104) rfl ?_
        refine pw_iload hX rfl dL_holds_104 (q := 106) rfl ?_
        refine pw_iandN hX dL_holds_106 (q := 107) rfl ?_
        rw [rt_0]
        refine pw_ifN_ne hX (by first | omega | exact bits12 _ | exact lt31_and (bits12 _) | (rw [dr_0]; decide) | (rw [gone_0 hz]; decide)) (tgt := 171) dL_holds_107 (q := 110) rfl (by decide) (fun h => False.elim (by first | omega | exact absurd h (by decide) | exact h (by decide) | exact h rfl)) (fun h_107 => ?_)
        refine pw_iload hX rfl dL_holds_110 (q := 112) rfl ?_
        refine pw_iconst hX (k := 2) rfl (by decide) dL_holds_112 (q := 113) rfl ?_
        refine pw_icmpN_lt hX (by first | omega | exact bits12 _ | exact lt31_and (bits12 _) | (rw [dr_0]; decide) | (rw [gone_0 hz]; decide)) (by first | omega | exact bits12 _ | exact lt31_and (bits12 _) | (rw [dr_0]; decide) | (rw [gone_0 hz]; decide)) (tgt := 124) dL_holds_113 (q := 116) rfl (by decide) (fun h_113 => ?_) (fun h => False.elim (by first | omega | exact absurd h (by decide) | exact h (by decide) | exact h rfl))
        refine pw_aload_n hX rfl dL_holds_124 (q := 125) rfl ?_
        refine pw_iload hX rfl dL_holds_125 (q := 127) rfl ?_
        refine pw_cvI1 hX dL_holds_127 (q := 130) rfl mi_X3_dead ml_L_23 rcR ⟨rfl, rfl, by decide, by decide⟩ rfl (Nat.le_of_ble_eq_true rfl) (c_X3_dead hV) ?_
        rw [qDead_at hn hlv]
        refine pw_iload hX rfl dL_holds_130 (q := 132) rfl ?_
        refine pw_iconstm hX dL_holds_132 (q := 133) rfl ?_
        refine pw_ixor hX dL_holds_133 (q := 134) rfl ?_
        refine pw_iand hX dL_holds_134 (q := 135) rfl ?_
        rw [n_an, dr_0]
        refine pw_ifN_ne hX (by first | omega | exact bits12 _ | exact lt31_and (bits12 _) | (rw [dr_0]; decide) | (rw [gone_0 hz]; decide)) (tgt := 171) dL_holds_135 (q := 138) rfl (by decide) (fun h => False.elim (by first | omega | exact absurd h (by decide) | exact h (by decide) | exact h rfl)) (fun h_135 => ?_)
        refine pw_aload_n hX rfl dL_holds_138 (q := 139) rfl ?_
        refine pw_iload hX rfl dL_holds_139 (q := 141) rfl ?_
        refine pw_iconst hX (k := 5) rfl (by decide) dL_holds_141 (q := 142) rfl ?_
        refine pw_cvI2 hX dL_holds_142 (q := 145) rfl mi_X3_villagerOf ml_L_19 rcR ⟨rfl, rfl, by decide, by decide⟩ rfl (Nat.le_of_ble_eq_true rfl) (c_X3_villagerOf hV) ?_
        rw [qOf_5 hn hlv, if_pos hst, nI_sub (by omega)]
        refine pw_if_lt hX (tgt := 152) dL_holds_145 (q := 148) rfl (by decide) (fun h => False.elim (by exact nI_pos (by omega) h)) (fun h_145 => ?_)
        refine pw_iconst hX (k := 1) rfl (by decide) dL_holds_148 (q := 149) rfl ?_
        refine pw_goto hX (tgt := 153) dL_holds_149 (by decide) ?_
        refine pw_iload hX rfl dL_holds_153 (q := 155) rfl ?_
        refine pw_iconst hX (k := 1) rfl (by decide) dL_holds_155 (q := 156) rfl ?_
        refine pw_icmpN_ne hX (by first | omega | exact bits12 _ | exact lt31_and (bits12 _) | (rw [dr_0]; decide) | (rw [gone_0 hz]; decide)) (by first | omega | exact bits12 _ | exact lt31_and (bits12 _) | (rw [dr_0]; decide) | (rw [gone_0 hz]; decide)) (tgt := 163) dL_holds_156 (q := 159) rfl (by decide) (fun h => False.elim (by first | omega | exact absurd h (by decide) | exact h (by decide) | exact h rfl)) (fun h_156 => ?_)
        refine pw_iconst hX (k := 1) rfl (by decide) dL_holds_159 (q := 160) rfl ?_
        refine pw_goto hX (tgt := 164) dL_holds_160 (by decide) ?_
        refine pw_icmpN_ne hX (by first | omega | exact bits12 _ | exact lt31_and (bits12 _) | (rw [dr_0]; decide) | (rw [gone_0 hz]; decide)) (by first | omega | exact bits12 _ | exact lt31_and (bits12 _) | (rw [dr_0]; decide) | (rw [gone_0 hz]; decide)) (tgt := 171) dL_holds_164 (q := 167) rfl (by decide) (fun h => False.elim (by first | omega | exact absurd h (by decide) | exact h (by decide) | exact h rfl)) (fun h_164 => ?_)
        refine pw_iconst hX (k := 1) rfl (by decide) dL_holds_167 (q := 168) rfl ?_
        refine pw_goto hX (tgt := 172) dL_holds_168 (by decide) ?_
        refine pw_istore hX (by decide) dL_holds_172 (q := 174) rfl ?_
        refine pw_iconst hX (k := 0) rfl (by decide) dL_holds_174 (q := 175) rfl ?_
        refine pw_istore hX (by decide) dL_holds_175 (q := 177) rfl ?_
        exact pw_fg hX lle_rfl (pw_eq rfl (by simp [cnt_s, hst]; try rfl) rfl (J36 0 (Nat.zero_le _)))
      · have hz := hs4.2.2.2.2 hst
        refine pw_iload hX rfl dL_holds_37 (q := 39) rfl ?_
        refine pw_iconst hX (k := 0) rfl (by decide) dL_holds_39 (q := 40) rfl ?_
        refine pw_cvI2 hX dL_holds_40 (q := 43) rfl mi_X3_villagerOf ml_L_19 rcR ⟨rfl, rfl, by decide, by decide⟩ rfl (Nat.le_of_ble_eq_true rfl) (c_X3_villagerOf hV) ?_
        rw [qOf_0 hn hlv]
        refine pw_istore hX (by decide) dL_holds_43 (q := 45) rfl ?_
        refine pw_iload_n hX rfl dL_holds_45 (q := 46) rfl ?_
        refine pw_iload hX rfl dL_holds_46 (q := 48) rfl ?_
        refine pw_ifN_ne hX (by first | omega | exact bits12 _ | exact lt31_and (bits12 _) | (rw [dr_0]; decide) | (rw [gone_0 hz]; decide)) (tgt := 55) dL_holds_48 (q := 51) rfl (by decide) (fun h_48 => ?_) (fun h => False.elim (by first | omega | exact absurd h (by decide) | exact h (by decide) | exact h rfl))
        refine pw_iconst hX (k := 0) rfl (by decide) dL_holds_55 (q := 56) rfl ?_
        refine pw_iaddN hX dL_holds_56 (q := 57) rfl ?_
        refine pw_istore_n hX (by decide) dL_holds_57 (q := 58) rfl ?_
        refine pw_iload_n hX rfl dL_holds_58 (q := 59) rfl ?_
        refine pw_iload hX rfl dL_holds_59 (q := 61) rfl ?_
        refine pw_iconst hX (k := 1) rfl (by decide) dL_holds_61 (q := 62) rfl ?_
        refine pw_icmpN_ne hX (by first | omega | exact bits12 _ | exact lt31_and (bits12 _) | (rw [dr_0]; decide) | (rw [gone_0 hz]; decide)) (by first | omega | exact bits12 _ | exact lt31_and (bits12 _) | (rw [dr_0]; decide) | (rw [gone_0 hz]; decide)) (tgt := 69) dL_holds_62 (q := 65) rfl (by decide) (fun h_62 => ?_) (fun h => False.elim (by first | omega | exact absurd h (by decide) | exact h (by decide) | exact h rfl))
        refine pw_iconst hX (k := 0) rfl (by decide) dL_holds_69 (q := 70) rfl ?_
        refine pw_iaddN hX dL_holds_70 (q := 71) rfl ?_
        refine pw_istore_n hX (by decide) dL_holds_71 (q := 72) rfl ?_
        refine pw_iload hX rfl dL_holds_72 (q := 74) rfl ?_
        refine pw_aload_n hX rfl dL_holds_74 (q := 75) rfl ?_
        refine pw_iload hX rfl dL_holds_75 (q := 77) rfl ?_
        refine pw_iconst hX (k := 4) rfl (by decide) dL_holds_77 (q := 78) rfl ?_
        refine pw_cvI2 hX dL_holds_78 (q := 81) rfl mi_X3_villagerOf ml_L_19 rcR ⟨rfl, rfl, by decide, by decide⟩ rfl (Nat.le_of_ble_eq_true rfl) (c_X3_villagerOf hV) ?_
        rw [qOf_4 hn hlv]
        refine pw_iaddN hX dL_holds_81 (q := 82) rfl ?_
        refine pw_istore hX (by decide) dL_holds_82 (q := 84) rfl ?_
        refine pw_aload_n hX rfl dL_holds_84 (q := 85) rfl ?_
        refine pw_iload hX rfl dL_holds_85 (q := 87) rfl ?_
        refine pw_iconst hX (k := 2) rfl (by decide) dL_holds_87 (q := 88) rfl ?_
        refine pw_cvI2 hX dL_holds_88 (q := 91) rfl mi_X3_villagerOf ml_L_19 rcR ⟨rfl, rfl, by decide, by decide⟩ rfl (Nat.le_of_ble_eq_true rfl) (c_X3_villagerOf hV) ?_
        rw [qOf_2 hn hlv]
        refine pw_istore hX (by decide) dL_holds_91 (q := 93) rfl ?_
        refine pw_aload_n hX rfl dL_holds_93 (q := 94) rfl ?_
        refine pw_iload hX rfl dL_holds_94 (q := 96) rfl ?_
        refine pw_iconst hX (k := 3) rfl (by decide) dL_holds_96 (q := 97) rfl ?_
        refine pw_cvI2 hX dL_holds_97 (q := 100) rfl mi_X3_villagerOf ml_L_19 rcR ⟨rfl, rfl, by decide, by decide⟩ rfl (Nat.le_of_ble_eq_true rfl) (c_X3_villagerOf hV) ?_
        rw [qOf_3 hn hlv]
        refine pw_istore hX (by decide) dL_holds_100 (q := 102) rfl ?_
        refine pw_iload hX rfl dL_holds_102 (q := 104) rfl ?_
        refine pw_iload hX rfl dL_holds_104 (q := 106) rfl ?_
        refine pw_iandN hX dL_holds_106 (q := 107) rfl ?_
        rw [rt_0]
        refine pw_ifN_ne hX (by first | omega | exact bits12 _ | exact lt31_and (bits12 _) | (rw [dr_0]; decide) | (rw [gone_0 hz]; decide)) (tgt := 171) dL_holds_107 (q := 110) rfl (by decide) (fun h => False.elim (by first | omega | exact absurd h (by decide) | exact h (by decide) | exact h rfl)) (fun h_107 => ?_)
        refine pw_iload hX rfl dL_holds_110 (q := 112) rfl ?_
        refine pw_iconst hX (k := 2) rfl (by decide) dL_holds_112 (q := 113) rfl ?_
        refine pw_icmpN_lt hX (by first | omega | exact bits12 _ | exact lt31_and (bits12 _) | (rw [dr_0]; decide) | (rw [gone_0 hz]; decide)) (by first | omega | exact bits12 _ | exact lt31_and (bits12 _) | (rw [dr_0]; decide) | (rw [gone_0 hz]; decide)) (tgt := 124) dL_holds_113 (q := 116) rfl (by decide) (fun h => False.elim (by first | omega | exact absurd h (by decide) | exact h (by decide) | exact h rfl)) (fun h_113 => ?_)
        refine pw_iload hX rfl dL_holds_116 (q := 118) rfl ?_
        refine pw_iload hX rfl dL_holds_118 (q := 120) rfl ?_
        refine pw_iaddN hX dL_holds_120 (q := 121) rfl ?_
        rw [gone_0 hz]
        refine pw_ifN_ne hX (by first | omega | exact bits12 _ | exact lt31_and (bits12 _) | (rw [dr_0]; decide) | (rw [gone_0 hz]; decide)) (tgt := 171) dL_holds_121 (q := 124) rfl (by decide) (fun h => False.elim (by first | omega | exact absurd h (by decide) | exact h (by decide) | exact h rfl)) (fun h_121 => ?_)
        refine pw_aload_n hX rfl dL_holds_124 (q := 125) rfl ?_
        refine pw_iload hX rfl dL_holds_125 (q := 127) rfl ?_
        refine pw_cvI1 hX dL_holds_127 (q := 130) rfl mi_X3_dead ml_L_23 rcR ⟨rfl, rfl, by decide, by decide⟩ rfl (Nat.le_of_ble_eq_true rfl) (c_X3_dead hV) ?_
        rw [qDead_at hn hlv]
        refine pw_iload hX rfl dL_holds_130 (q := 132) rfl ?_
        refine pw_iconstm hX dL_holds_132 (q := 133) rfl ?_
        refine pw_ixor hX dL_holds_133 (q := 134) rfl ?_
        refine pw_iand hX dL_holds_134 (q := 135) rfl ?_
        rw [n_an, dr_0]
        refine pw_ifN_ne hX (by first | omega | exact bits12 _ | exact lt31_and (bits12 _) | (rw [dr_0]; decide) | (rw [gone_0 hz]; decide)) (tgt := 171) dL_holds_135 (q := 138) rfl (by decide) (fun h => False.elim (by first | omega | exact absurd h (by decide) | exact h (by decide) | exact h rfl)) (fun h_135 => ?_)
        refine pw_aload_n hX rfl dL_holds_138 (q := 139) rfl ?_
        refine pw_iload hX rfl dL_holds_139 (q := 141) rfl ?_
        refine pw_iconst hX (k := 5) rfl (by decide) dL_holds_141 (q := 142) rfl ?_
        refine pw_cvI2 hX dL_holds_142 (q := 145) rfl mi_X3_villagerOf ml_L_19 rcR ⟨rfl, rfl, by decide, by decide⟩ rfl (Nat.le_of_ble_eq_true rfl) (c_X3_villagerOf hV) ?_
        rw [qOf_5 hn hlv, if_neg (by omega)]
        refine pw_if_lt hX (tgt := 152) dL_holds_145 (q := 148) rfl (by decide) (fun h_145 => ?_) (fun h => False.elim (by first | omega | exact absurd h (by decide) | exact h (by decide) | exact h rfl))
        refine pw_iconst hX (k := 0) rfl (by decide) dL_holds_152 (q := 153) rfl ?_
        refine pw_iload hX rfl dL_holds_153 (q := 155) rfl ?_
        refine pw_iconst hX (k := 1) rfl (by decide) dL_holds_155 (q := 156) rfl ?_
        refine pw_icmpN_ne hX (by first | omega | exact bits12 _ | exact lt31_and (bits12 _) | (rw [dr_0]; decide) | (rw [gone_0 hz]; decide)) (by first | omega | exact bits12 _ | exact lt31_and (bits12 _) | (rw [dr_0]; decide) | (rw [gone_0 hz]; decide)) (tgt := 163) dL_holds_156 (q := 159) rfl (by decide) (fun h_156 => ?_) (fun h => False.elim (by first | omega | exact absurd h (by decide) | exact h (by decide) | exact h rfl))
        refine pw_iconst hX (k := 0) rfl (by decide) dL_holds_163 (q := 164) rfl ?_
        refine pw_icmpN_ne hX (by first | omega | exact bits12 _ | exact lt31_and (bits12 _) | (rw [dr_0]; decide) | (rw [gone_0 hz]; decide)) (by first | omega | exact bits12 _ | exact lt31_and (bits12 _) | (rw [dr_0]; decide) | (rw [gone_0 hz]; decide)) (tgt := 171) dL_holds_164 (q := 167) rfl (by decide) (fun h => False.elim (by first | omega | exact absurd h (by decide) | exact h (by decide) | exact h rfl)) (fun h_164 => ?_)
        refine pw_iconst hX (k := 1) rfl (by decide) dL_holds_167 (q := 168) rfl ?_
        refine pw_goto hX (tgt := 172) dL_holds_168 (by decide) ?_
        refine pw_istore hX (by decide) dL_holds_172 (q := 174) rfl ?_
        refine pw_iconst hX (k := 0) rfl (by decide) dL_holds_174 (q := 175) rfl ?_
        refine pw_istore hX (by decide) dL_holds_175 (q := 177) rfl ?_
        exact pw_fg hX lle_rfl (pw_eq rfl (by simp [cnt_s, hst]; try rfl) rfl (J36 0 (Nat.zero_le _)))
