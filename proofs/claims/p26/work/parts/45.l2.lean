abbrev rm_L_meets : Room := { frames := 6, cells := 1, slots := 24, locals := 142 }
set_option maxHeartbeats 4000000 in
set_option maxRecDepth 20000 in
theorem meets_b {l : Launch} {g' : Geo} {N G a b : Nat} {P : PT} (hX : Gd l g' RL cL_meets rm_L_meets 14 (some .boolean) (fun r w' => r = some (.int (nI 1)) ∧ WJ w' N (G + 12) 5) (fun _ _ _ => False) P) (hf9 : g_fl g' = true) {W1 : WD} {V V' : Nat → Nat → Nat} {T : Nat} (ha : a < 5) (hb : b < 5) (hN : N ≤ 2 ^ 20) (hG : G ≤ 2 ^ 20) (hS1 : WJ W1 N (G + 12) 5) (hV1 : W1.1 0 = V') (h9 : W1.1 9 1 = wf V a b 12) (hJ : J V N G) (h5 : V 0 0 = 5) (k1 : J V' N (G + 12)) (hk0 : V' 0 0 = V 0 0) (hk2a : V' 2 a = mx (V 2 a) (V 2 b)) (hk2b : V' 2 b = mx (V 2 a) (V 2 b)) (kF : ∀ s, s < 12 → Fin V V' a b s) (kg1 : nGh V (V 0 0) ≤ nGh V' (V 0 0)) (kg2 : nGh V' (V 0 0) ≤ nGh V (V 0 0) + T) (ht12 : T ≤ 12) : P W1 100 [some (.ref (g_ad g' 10 0)), some (.int (nI (a))), some (.int (nI (b))), some (.ref (g_ad g' 9 1)), some (.int (nI (bits (fun t => !(decide (V 5 (a * 12 + t) = V 5 (b * 12 + t)))) 12))), some (.int (nI (mx (V 2 a) (V 2 b)))), some (.int (nI (nGh V (V 0 0)))), none, none, none, none, none, none, none] [.int (nI T)] := by
  have hn1 : V' 0 0 ≤ 7 := by omega
  have hVW : bV (W1.1 0) := (J_b hS1.2.2.1 hN).1
  have hW5 : W1.1 0 0 0 = 5 := hS1.2.2.2
  have hK5 : V' 0 0 = 5 := by omega
  have hG1 := nGh_le hJ
  have hG2 := nGh_le k1
  rw [hk0] at hG2
  have ca := (hJ.2.2.2.2.1 a (by omega)).2.1
  have cb := (hJ.2.2.2.2.1 b (by omega)).2.1
  have hmx : mx (V 2 a) (V 2 b) ≤ N := by unfold mx; split <;> omega
  have hm := fun s (hs : s < 12) => Fin_m (kF s hs)
  have hpd : an (bits (fun t => !(decide (V 5 (a * 12 + t) = V 5 (b * 12 + t)))) 12) (bits (fun t => !(decide (V' 5 (a * 12 + t) = V' 5 (b * 12 + t)))) 12) = bits (fun t => decide (V 5 (a * 12 + t) < V' 5 (a * 12 + t) ∨ V 5 (b * 12 + t) < V' 5 (b * 12 + t))) 12 := by
    rw [an_bits]
    exact bits_congr (fun s hs => pd_b (hm s hs).2.2.2.2.1)
  have hlu : an (bits (fun t => !(decide (V' 5 (a * 12 + t) = V' 5 (b * 12 + t)))) 12) (bits (fun t => !(decide (V 5 (a * 12 + t) = V 5 (b * 12 + t)))) 12) = 0 := by
    rw [an_bits]
    exact bits_0 (fun s hs => lu_b (hm s hs).2.2.2.2.2.1)
  refine pw_istore hX (by decide) dL_meets_100 (q := 102) rfl ?_
  refine pw_iload hX rfl dL_meets_102 (q := 104) rfl ?_
  refine pw_if_ge hX (tgt := 149) dL_meets_104 (q := 107) rfl (by decide) (fun h_104 => ?_) (fun h => False.elim (by exact h (nI_pos' (by omega))))
  refine pw_iconst hX (k := 0) rfl (by decide) dL_meets_149 (q := 150) rfl ?_
  refine pw_istore hX (by decide) dL_meets_150 (q := 152) rfl ?_
  refine pw_aload_n hX rfl dL_meets_152 (q := 153) rfl ?_
  refine pw_iload_n hX rfl dL_meets_153 (q := 154) rfl ?_
  refine pw_iconst hX (k := 1) rfl (by decide) dL_meets_154 (q := 155) rfl ?_
  refine pw_cvI2 hX dL_meets_155 (q := 158) rfl mi_X3_villagerOf ml_L_19 rcR ⟨rfl, rfl, by decide, by decide⟩ rfl (Nat.le_of_ble_eq_true rfl) (c_X3_villagerOf hVW) ?_
  rw [hV1, qOf_1 hn1 (by omega), hk2a]
  refine pw_iload hX rfl dL_meets_158 (q := 160) rfl ?_
  refine pw_icmpN_ne hX (by first | omega | exact bits12 _ | exact lt31_and (bits12 _)) (by first | omega | exact bits12 _ | exact lt31_and (bits12 _)) (tgt := 178) dL_meets_160 (q := 163) rfl (by decide) (fun h => False.elim (by first | omega | exact absurd h (by decide) | exact h (by decide) | exact h rfl)) (fun h_160 => ?_)
  refine pw_aload_n hX rfl dL_meets_163 (q := 164) rfl ?_
  refine pw_iload_n hX rfl dL_meets_164 (q := 165) rfl ?_
  refine pw_iconst hX (k := 1) rfl (by decide) dL_meets_165 (q := 166) rfl ?_
  refine pw_cvI2 hX dL_meets_166 (q := 169) rfl mi_X3_villagerOf ml_L_19 rcR ⟨rfl, rfl, by decide, by decide⟩ rfl (Nat.le_of_ble_eq_true rfl) (c_X3_villagerOf hVW) ?_
  rw [hV1, qOf_1 hn1 (by omega), hk2b]
  refine pw_iload hX rfl dL_meets_169 (q := 171) rfl ?_
  refine pw_icmpN_ne hX (by first | omega | exact bits12 _ | exact lt31_and (bits12 _)) (by first | omega | exact bits12 _ | exact lt31_and (bits12 _)) (tgt := 178) dL_meets_171 (q := 174) rfl (by decide) (fun h => False.elim (by first | omega | exact absurd h (by decide) | exact h (by decide) | exact h rfl)) (fun h_171 => ?_)
  refine pw_iconst hX (k := 1) rfl (by decide) dL_meets_174 (q := 175) rfl ?_
  refine pw_goto hX (tgt := 179) dL_meets_175 (by decide) ?_
  refine pw_istore hX (by decide) dL_meets_179 (q := 181) rfl ?_
  refine pw_iconst hX (k := 0) rfl (by decide) dL_meets_181 (q := 182) rfl ?_
  refine pw_istore hX (by decide) dL_meets_182 (q := 184) rfl ?_
  suffices L : ∀ i, i ≤ 12 → P W1 184 [some (.ref (g_ad g' 10 0)), some (.int (nI (a))), some (.int (nI (b))), some (.ref (g_ad g' 9 1)), some (.int (nI (bits (fun t => !(decide (V 5 (a * 12 + t) = V 5 (b * 12 + t)))) 12))), some (.int (nI (mx (V 2 a) (V 2 b)))), some (.int (nI (nGh V (V 0 0)))), some (.int (nI (T))), some (.int (nI (cnt (fun t => decide (V 5 (a * 12 + t) < V' 5 (a * 12 + t) ∨ V 5 (b * 12 + t) < V' 5 (b * 12 + t))) i))), some (.int (nI (1))), some (.int (nI (i))), none, none, none] [] by exact L 0 (Nat.zero_le _)
  refine loopUp (fun i hi ih => ?_)
  refine pw_iload hX rfl dL_meets_184 (q := 186) rfl ?_
  refine pw_bipush hX (k := 12) (by decide) dL_meets_186 (q := 188) rfl ?_
  refine pw_icmpN_ge hX (by first | omega | exact bits12 _ | exact lt31_and (bits12 _)) (by first | omega | exact bits12 _ | exact lt31_and (bits12 _)) (tgt := 361) dL_meets_188 (q := 191) rfl (by decide) (fun h_188 => ?_) (fun h_188 => ?_)
  · obtain rfl : i = 12 := by omega
    clear hi h_188
    refine pw_aload_n hX rfl dL_meets_361 (q := 362) rfl ?_
    refine pw_iload_n hX rfl dL_meets_362 (q := 363) rfl ?_
    refine pw_iload_n hX rfl dL_meets_363 (q := 364) rfl ?_
    refine pw_cvI2 hX dL_meets_364 (q := 367) rfl mi_X3_unlike ml_L_32 rcR ⟨rfl, rfl, by decide, by decide⟩ rfl (Nat.le_of_ble_eq_true rfl) (c_X3_unlike hVW) ?_
    rw [hV1, qUnl_at hn1 (by omega) (by omega)]
    refine pw_istore hX (by decide) dL_meets_367 (q := 369) rfl ?_
    refine pw_iconst hX (k := 0) rfl (by decide) dL_meets_369 (q := 370) rfl ?_
    refine pw_istore hX (by decide) dL_meets_370 (q := 372) rfl ?_
    suffices L : ∀ j, j ≤ 12 → P W1 372 [some (.ref (g_ad g' 10 0)), some (.int (nI (a))), some (.int (nI (b))), some (.ref (g_ad g' 9 1)), some (.int (nI (bits (fun t => !(decide (V 5 (a * 12 + t) = V 5 (b * 12 + t)))) 12))), some (.int (nI (mx (V 2 a) (V 2 b)))), some (.int (nI (nGh V (V 0 0)))), some (.int (nI (T))), some (.int (nI (cnt (fun t => decide (V 5 (a * 12 + t) < V' 5 (a * 12 + t) ∨ V 5 (b * 12 + t) < V' 5 (b * 12 + t))) 12 - cnt (fun t => decide (V 5 (a * 12 + t) < V' 5 (a * 12 + t) ∨ V 5 (b * 12 + t) < V' 5 (b * 12 + t))) j))), some (.int (nI (1))), some (.int (nI (bits (fun t => !(decide (V' 5 (a * 12 + t) = V' 5 (b * 12 + t)))) 12))), some (.int (nI (j))), none, none] [] by exact pw_eq rfl (by rw [show cnt (fun t => decide (V 5 (a * 12 + t) < V' 5 (a * 12 + t) ∨ V 5 (b * 12 + t) < V' 5 (b * 12 + t))) 0 = 0 from rfl, Nat.sub_zero] <;> rfl) rfl (L 0 (Nat.zero_le _))
    refine loopUp (fun j hj ih => ?_)
    refine pw_iload hX rfl dL_meets_372 (q := 374) rfl ?_
    refine pw_bipush hX (k := 12) (by decide) dL_meets_374 (q := 376) rfl ?_
    refine pw_icmpN_ge hX (by first | omega | exact bits12 _ | exact lt31_and (bits12 _)) (by first | omega | exact bits12 _ | exact lt31_and (bits12 _)) (tgt := 402) dL_meets_376 (q := 379) rfl (by decide) (fun h_376 => ?_) (fun h_376 => ?_)
    · obtain rfl : j = 12 := by omega
      rw [Nat.sub_self]
      refine pw_iload hX rfl dL_meets_402 (q := 404) rfl ?_
      refine pw_ifN_eq hX (by first | omega | exact bits12 _ | exact lt31_and (bits12 _)) (tgt := 451) dL_meets_404 (q := 407) rfl (by decide) (fun h => False.elim (by first | omega | exact absurd h (by decide) | exact h (by decide) | exact h rfl)) (fun h_404 => ?_)
      refine pw_iload hX rfl dL_meets_407 (q := 409) rfl ?_
      refine pw_ifN_ne hX (by first | omega | exact bits12 _ | exact lt31_and (bits12 _)) (tgt := 451) dL_meets_409 (q := 412) rfl (by decide) (fun h => False.elim (by first | omega | exact absurd h (by decide) | exact h (by decide) | exact h rfl)) (fun h_409 => ?_)
      refine pw_iload hX rfl dL_meets_412 (q := 414) rfl ?_
      refine pw_iload hX rfl dL_meets_414 (q := 416) rfl ?_
      refine pw_iconstm hX dL_meets_416 (q := 417) rfl ?_
      refine pw_ixor hX dL_meets_417 (q := 418) rfl ?_
      refine pw_iand hX dL_meets_418 (q := 419) rfl ?_
      rw [n_an, hlu]
      refine pw_ifN_ne hX (by first | omega | exact bits12 _ | exact lt31_and (bits12 _)) (tgt := 451) dL_meets_419 (q := 422) rfl (by decide) (fun h => False.elim (by first | omega | exact absurd h (by decide) | exact h (by decide) | exact h rfl)) (fun h_419 => ?_)
      refine pw_aload_n hX rfl dL_meets_422 (q := 423) rfl ?_
      refine pw_bipush hX (k := 8) (by decide) dL_meets_423 (q := 425) rfl ?_
      refine pw_cvI1 hX dL_meets_425 (q := 428) rfl mi_X3_count ml_L_15 rcR ⟨rfl, rfl, by decide, by decide⟩ rfl (Nat.le_of_ble_eq_true rfl) (c_X3_count hVW) ?_
      rw [hV1, qCnt_8, hk0]
      refine pw_iload hX rfl dL_meets_428 (q := 430) rfl ?_
      refine pw_icmpN_lt hX (by first | omega | exact bits12 _ | exact lt31_and (bits12 _)) (by first | omega | exact bits12 _ | exact lt31_and (bits12 _)) (tgt := 451) dL_meets_430 (q := 433) rfl (by decide) (fun h => False.elim (by first | omega | exact absurd h (by decide) | exact h (by decide) | exact h rfl)) (fun h_430 => ?_)
      refine pw_aload_n hX rfl dL_meets_433 (q := 434) rfl ?_
      refine pw_bipush hX (k := 8) (by decide) dL_meets_434 (q := 436) rfl ?_
      refine pw_cvI1 hX dL_meets_436 (q := 439) rfl mi_X3_count ml_L_15 rcR ⟨rfl, rfl, by decide, by decide⟩ rfl (Nat.le_of_ble_eq_true rfl) (c_X3_count hVW) ?_
      rw [hV1, qCnt_8, hk0]
      refine pw_iload hX rfl dL_meets_439 (q := 441) rfl ?_
      refine pw_iload hX rfl dL_meets_441 (q := 443) rfl ?_
      refine pw_iaddN hX dL_meets_443 (q := 444) rfl ?_
      refine pw_icmpN_gt hX (by first | omega | exact bits12 _ | exact lt31_and (bits12 _)) (by first | omega | exact bits12 _ | exact lt31_and (bits12 _)) (tgt := 451) dL_meets_444 (q := 447) rfl (by decide) (fun h => False.elim (by first | omega | exact absurd h (by decide) | exact h (by decide) | exact h rfl)) (fun h_444 => ?_)
      refine pw_iconst hX (k := 1) rfl (by decide) dL_meets_447 (q := 448) rfl ?_
      refine pw_goto hX (tgt := 452) dL_meets_448 (by decide) ?_
      refine pw_ireturn hX dL_meets_452 ⟨_, rfl, by first | exact bI_nar _ | decide | rfl⟩ ⟨congrArg (fun z => some (Value.int z)) ?_, ?_⟩
      · rfl
      · exact hS1
    · have hj12 : j < 12 := by omega
      have hmo : (if decide (V 5 (a * 12 + j) < V' 5 (a * 12 + j) ∨ V 5 (b * 12 + j) < V' 5 (b * 12 + j)) = true then 1 else 0) ≤ cnt (fun t => decide (V 5 (a * 12 + t) < V' 5 (a * 12 + t) ∨ V 5 (b * 12 + t) < V' 5 (b * 12 + t))) 12 - cnt (fun t => decide (V 5 (a * 12 + t) < V' 5 (a * 12 + t) ∨ V 5 (b * 12 + t) < V' 5 (b * 12 + t))) j := by
        have h := cnt_mono (p := (fun t => decide (V 5 (a * 12 + t) < V' 5 (a * 12 + t) ∨ V 5 (b * 12 + t) < V' 5 (b * 12 + t)))) (show j + 1 ≤ 12 by omega)
        rw [cnt_s _ j] at h
        exact Nat.le_sub_of_add_le (by rw [Nat.add_comm]; exact h)
      refine pw_iload hX rfl dL_meets_379 (q := 381) rfl ?_
      refine pw_iload hX rfl dL_meets_381 (q := 383) rfl ?_
      refine pw_iload hX rfl dL_meets_383 (q := 385) rfl ?_
      refine pw_iconstm hX dL_meets_385 (q := 386) rfl ?_
      refine pw_ixor hX dL_meets_386 (q := 387) rfl ?_
      refine pw_iand hX dL_meets_387 (q := 388) rfl ?_
      rw [n_an, hpd]
      refine pw_iload hX rfl dL_meets_388 (q := 390) rfl ?_
      refine pw_ishrN hX (by exact bits12 _) (by omega) dL_meets_390 (q := 391) rfl ?_
      refine pw_iconst hX (k := 1) rfl (by decide) dL_meets_391 (q := 392) rfl ?_
      refine pw_iandN hX dL_meets_392 (q := 393) rfl ?_
      rw [Nat.and_one_is_mod, bit_at _ hj12]
      refine pw_isubN hX hmo dL_meets_393 (q := 394) rfl ?_
      refine pw_istore hX (by decide) dL_meets_394 (q := 396) rfl ?_
      refine pw_iinc hX rfl (by decide) (inc1 _) dL_meets_396 (q := 399) rfl ?_
      refine pw_goto hX (tgt := 372) dL_meets_399 (by decide) ?_
      exact pw_eq rfl (by rw [cnt_s _ j, Nat.sub_add_eq] <;> rfl) rfl (ih (by omega))
  · obtain ⟨m1, m2, m3, m4, m5, m6, m7⟩ := hm i (by omega)
    have z1 := J5 hJ (show a * 12 + i < 84 by omega)
    have z2 := J5 hJ (show b * 12 + i < 84 by omega)
    have z3 := J5 k1 (show a * 12 + i < 84 by omega)
    have z4 := J5 k1 (show b * 12 + i < 84 by omega)
    have z5 : mx (V 5 (b * 12 + i)) (V 5 (a * 12 + i)) ≤ 8 * N + 7 := by unfold mx; split <;> omega
    refine pw_iload hX rfl dL_meets_191 (q := 193) rfl ?_
    refine pw_ifN_eq hX (by first | omega | exact bits12 _ | exact lt31_and (bits12 _)) (tgt := 361) dL_meets_193 (q := 196) rfl (by decide) (fun h => False.elim (by first | omega | exact absurd h (by decide) | exact h (by decide) | exact h rfl)) (fun h_193 => ?_)
    refine pw_aload_n hX rfl dL_meets_196 (q := 197) rfl ?_
    refine pw_iload_n hX rfl dL_meets_197 (q := 198) rfl ?_
    refine pw_iload hX rfl dL_meets_198 (q := 200) rfl ?_
    refine pw_csI3 hX dL_meets_200 (q := 203) rfl mi_L_rank ml_L_26 ⟨rfl, rfl, by decide, by decide⟩ rfl (Nat.le_of_ble_eq_true rfl) (c_L_rank hVW (by omega) (by omega)) ?_
    rw [hV1]
    refine pw_istore hX (by decide) dL_meets_203 (q := 205) rfl ?_
    refine pw_aload_n hX rfl dL_meets_205 (q := 206) rfl ?_
    refine pw_iload_n hX rfl dL_meets_206 (q := 207) rfl ?_
    refine pw_iload hX rfl dL_meets_207 (q := 209) rfl ?_
    refine pw_csI3 hX dL_meets_209 (q := 212) rfl mi_L_rank ml_L_26 ⟨rfl, rfl, by decide, by decide⟩ rfl (Nat.le_of_ble_eq_true rfl) (c_L_rank hVW (by omega) (by omega)) ?_
    rw [hV1]
    refine pw_istore hX (by decide) dL_meets_212 (q := 214) rfl ?_
    refine jn (A := P W1 244 [some (.ref (g_ad g' 10 0)), some (.int (nI (a))), some (.int (nI (b))), some (.ref (g_ad g' 9 1)), some (.int (nI (bits (fun t => !(decide (V 5 (a * 12 + t) = V 5 (b * 12 + t)))) 12))), some (.int (nI (mx (V 2 a) (V 2 b)))), some (.int (nI (nGh V (V 0 0)))), some (.int (nI (T))), some (.int (nI (cnt (fun t => decide (V 5 (a * 12 + t) < V' 5 (a * 12 + t) ∨ V 5 (b * 12 + t) < V' 5 (b * 12 + t))) i))), some (.int (nI (1))), some (.int (nI (i))), some (.int (nI (V' 5 (a * 12 + i)))), some (.int (nI (V' 5 (b * 12 + i)))), some (.int (nI (mx (V 5 (b * 12 + i)) (V 5 (a * 12 + i)))))] []) ?_ (fun J214 => ?_)
    · skip
      refine pw_iload hX rfl dL_meets_244 (q := 246) rfl ?_
      refine jn (A := P W1 272 [some (.ref (g_ad g' 10 0)), some (.int (nI (a))), some (.int (nI (b))), some (.ref (g_ad g' 9 1)), some (.int (nI (bits (fun t => !(decide (V 5 (a * 12 + t) = V 5 (b * 12 + t)))) 12))), some (.int (nI (mx (V 2 a) (V 2 b)))), some (.int (nI (nGh V (V 0 0)))), some (.int (nI (T))), some (.int (nI (cnt (fun t => decide (V 5 (a * 12 + t) < V' 5 (a * 12 + t) ∨ V 5 (b * 12 + t) < V' 5 (b * 12 + t))) i))), some (.int (nI (1))), some (.int (nI (i))), some (.int (nI (V' 5 (a * 12 + i)))), some (.int (nI (V' 5 (b * 12 + i)))), some (.int (nI (mx (V 5 (b * 12 + i)) (V 5 (a * 12 + i)))))] [.int (nI (if decide (V 5 (a * 12 + i) < V' 5 (a * 12 + i) ∨ V 5 (b * 12 + i) < V' 5 (b * 12 + i)) = true then 1 else 0)), .int (nI (cnt (fun t => decide (V 5 (a * 12 + t) < V' 5 (a * 12 + t) ∨ V 5 (b * 12 + t) < V' 5 (b * 12 + t))) i))]) ?_ (fun J246 => ?_)
      · skip
        refine pw_iaddN hX dL_meets_272 (q := 273) rfl ?_
        refine pw_istore hX (by decide) dL_meets_273 (q := 275) rfl ?_
        refine pw_iload hX rfl dL_meets_275 (q := 277) rfl ?_
        refine pw_aload_n hX rfl dL_meets_277 (q := 278) rfl ?_
        refine pw_iload hX rfl dL_meets_278 (q := 280) rfl ?_
        refine pw_ialdR hX hf9 (show _ < 24 by omega) dL_meets_280 (q := 281) rfl ?_
        rw [h9, wf_a _ _ _ (by omega)]
        refine pw_icmpN_lt hX (by first | omega | exact bits12 _ | exact lt31_and (bits12 _)) (by first | omega | exact bits12 _ | exact lt31_and (bits12 _)) (tgt := 352) dL_meets_281 (q := 284) rfl (by decide) (fun h => False.elim (by first | omega | exact absurd h (by decide) | exact h (by decide) | exact h rfl)) (fun h_281 => ?_)
        refine pw_iload hX rfl dL_meets_284 (q := 286) rfl ?_
        refine pw_aload_n hX rfl dL_meets_286 (q := 287) rfl ?_
        refine pw_bipush hX (k := 12) (by decide) dL_meets_287 (q := 289) rfl ?_
        refine pw_iload hX rfl dL_meets_289 (q := 291) rfl ?_
        refine pw_iaddN hX dL_meets_291 (q := 292) rfl ?_
        refine pw_ialdR hX hf9 (show _ < 24 by omega) dL_meets_292 (q := 293) rfl ?_
        rw [h9, wf_b _ _ _ (by omega)]
        refine pw_icmpN_lt hX (by first | omega | exact bits12 _ | exact lt31_and (bits12 _)) (by first | omega | exact bits12 _ | exact lt31_and (bits12 _)) (tgt := 352) dL_meets_293 (q := 296) rfl (by decide) (fun h => False.elim (by first | omega | exact absurd h (by decide) | exact h (by decide) | exact h rfl)) (fun h_293 => ?_)
        refine pw_iload hX rfl dL_meets_296 (q := 298) rfl ?_
        refine pw_iload hX rfl dL_meets_298 (q := 300) rfl ?_
        refine pw_icmpN_gt hX (by first | omega | exact bits12 _ | exact lt31_and (bits12 _)) (by first | omega | exact bits12 _ | exact lt31_and (bits12 _)) (tgt := 352) dL_meets_300 (q := 303) rfl (by decide) (fun h => False.elim (by first | omega | exact absurd h (by decide) | exact h (by decide) | exact h rfl)) (fun h_300 => ?_)
        refine pw_iload hX rfl dL_meets_303 (q := 305) rfl ?_
        refine pw_iload hX rfl dL_meets_305 (q := 307) rfl ?_
        refine pw_icmpN_gt hX (by first | omega | exact bits12 _ | exact lt31_and (bits12 _)) (by first | omega | exact bits12 _ | exact lt31_and (bits12 _)) (tgt := 352) dL_meets_307 (q := 310) rfl (by decide) (fun h => False.elim (by first | omega | exact absurd h (by decide) | exact h (by decide) | exact h rfl)) (fun h_307 => ?_)
        refine pw_aload_n hX rfl dL_meets_310 (q := 311) rfl ?_
        rcases (show (kTmb V' (a * 12 + i) = true ∧ kTmb V' (b * 12 + i) = true) ∨ (kTmb V' (a * 12 + i) = true ∧ ¬ kTmb V' (b * 12 + i) = true) ∨ ¬ kTmb V' (a * 12 + i) = true by cases kTmb V' (a * 12 + i) <;> cases kTmb V' (b * 12 + i) <;> simp) with ⟨hTa, hTb⟩ | ⟨hTa, hTb⟩ | hTa
        · have m8 := m7 hTa hTb
          refine pw_iload_n hX rfl dL_meets_311 (q := 312) rfl ?_
          refine pw_iload hX rfl dL_meets_312 (q := 314) rfl ?_
          refine pw_iconst hX (k := 0) rfl (by decide) dL_meets_314 (q := 315) rfl ?_
          refine pw_cvI3 hX dL_meets_315 (q := 318) rfl mi_X3_entryOf ml_L_9 rcR ⟨rfl, rfl, by decide, by decide⟩ rfl (Nat.le_of_ble_eq_true rfl) (c_X3_entryOf hVW) ?_
          rw [hV1, qEO_t hn1 (by omega) (by omega) hTa]
          refine pw_iconst hX (k := 1) rfl (by decide) dL_meets_318 (q := 319) rfl ?_
          refine pw_icmpN_ne hX (by first | omega | exact bits12 _ | exact lt31_and (bits12 _)) (by first | omega | exact bits12 _ | exact lt31_and (bits12 _)) (tgt := 348) dL_meets_319 (q := 322) rfl (by decide) (fun h => False.elim (by first | omega | exact absurd h (by decide) | exact h (by decide) | exact h rfl)) (fun h_319 => ?_)
          refine pw_aload_n hX rfl dL_meets_322 (q := 323) rfl ?_
          refine pw_iload_n hX rfl dL_meets_323 (q := 324) rfl ?_
          refine pw_iload hX rfl dL_meets_324 (q := 326) rfl ?_
          refine pw_iconst hX (k := 0) rfl (by decide) dL_meets_326 (q := 327) rfl ?_
          refine pw_cvI3 hX dL_meets_327 (q := 330) rfl mi_X3_entryOf ml_L_9 rcR ⟨rfl, rfl, by decide, by decide⟩ rfl (Nat.le_of_ble_eq_true rfl) (c_X3_entryOf hVW) ?_
          rw [hV1, qEO_t hn1 (by omega) (by omega) hTb]
          refine pw_iconst hX (k := 1) rfl (by decide) dL_meets_330 (q := 331) rfl ?_
          refine pw_icmpN_ne hX (by first | omega | exact bits12 _ | exact lt31_and (bits12 _)) (by first | omega | exact bits12 _ | exact lt31_and (bits12 _)) (tgt := 348) dL_meets_331 (q := 334) rfl (by decide) (fun h => False.elim (by first | omega | exact absurd h (by decide) | exact h (by decide) | exact h rfl)) (fun h_331 => ?_)
          refine pw_iload hX rfl dL_meets_334 (q := 336) rfl ?_
          refine pw_iload hX rfl dL_meets_336 (q := 338) rfl ?_
          refine pw_icmpN_ne hX (by first | omega | exact bits12 _ | exact lt31_and (bits12 _)) (by first | omega | exact bits12 _ | exact lt31_and (bits12 _)) (tgt := 352) dL_meets_338 (q := 341) rfl (by decide) (fun h => False.elim (by first | omega | exact absurd h (by decide) | exact h (by decide) | exact h rfl)) (fun h_338 => ?_)
          refine pw_iload hX rfl dL_meets_341 (q := 343) rfl ?_
          refine pw_iload hX rfl dL_meets_343 (q := 345) rfl ?_
          refine pw_icmpN_ne hX (by first | omega | exact bits12 _ | exact lt31_and (bits12 _)) (by first | omega | exact bits12 _ | exact lt31_and (bits12 _)) (tgt := 352) dL_meets_345 (q := 348) rfl (by decide) (fun h => False.elim (by first | omega | exact absurd h (by decide) | exact h (by decide) | exact h rfl)) (fun h_345 => ?_)
          refine pw_iconst hX (k := 1) rfl (by decide) dL_meets_348 (q := 349) rfl ?_
          refine pw_goto hX (tgt := 353) dL_meets_349 (by decide) ?_
          refine pw_istore hX (by decide) dL_meets_353 (q := 355) rfl ?_
          refine pw_iinc hX rfl (by decide) (inc1 _) dL_meets_355 (q := 358) rfl ?_
          refine pw_goto hX (tgt := 184) dL_meets_358 (by decide) ?_
          exact pw_fg hX (lle_cons (lle_cons (lle_cons (lle_cons (lle_cons (lle_cons (lle_cons (lle_cons (lle_cons (lle_cons (lle_cons (lle_none (lle_none (lle_none lle_nil)))))))))))))) (ih (by omega))
        · skip
          refine pw_iload_n hX rfl dL_meets_311 (q := 312) rfl ?_
          refine pw_iload hX rfl dL_meets_312 (q := 314) rfl ?_
          refine pw_iconst hX (k := 0) rfl (by decide) dL_meets_314 (q := 315) rfl ?_
          refine pw_cvI3 hX dL_meets_315 (q := 318) rfl mi_X3_entryOf ml_L_9 rcR ⟨rfl, rfl, by decide, by decide⟩ rfl (Nat.le_of_ble_eq_true rfl) (c_X3_entryOf hVW) ?_
          rw [hV1, qEO_t hn1 (by omega) (by omega) hTa]
          refine pw_iconst hX (k := 1) rfl (by decide) dL_meets_318 (q := 319) rfl ?_
          refine pw_icmpN_ne hX (by first | omega | exact bits12 _ | exact lt31_and (bits12 _)) (by first | omega | exact bits12 _ | exact lt31_and (bits12 _)) (tgt := 348) dL_meets_319 (q := 322) rfl (by decide) (fun h => False.elim (by first | omega | exact absurd h (by decide) | exact h (by decide) | exact h rfl)) (fun h_319 => ?_)
          refine pw_aload_n hX rfl dL_meets_322 (q := 323) rfl ?_
          refine pw_iload_n hX rfl dL_meets_323 (q := 324) rfl ?_
          refine pw_iload hX rfl dL_meets_324 (q := 326) rfl ?_
          refine pw_iconst hX (k := 0) rfl (by decide) dL_meets_326 (q := 327) rfl ?_
          refine pw_cvI3 hX dL_meets_327 (q := 330) rfl mi_X3_entryOf ml_L_9 rcR ⟨rfl, rfl, by decide, by decide⟩ rfl (Nat.le_of_ble_eq_true rfl) (c_X3_entryOf hVW) ?_
          rw [hV1]
          refine pw_iconst hX (k := 1) rfl (by decide) dL_meets_330 (q := 331) rfl ?_
          refine pw_icmp_ne hX (tgt := 348) dL_meets_331 (q := 334) rfl (by decide) (fun h_331 => ?_) (fun h => False.elim (by exact qEO_ne hn1 (by omega) (by omega) hTb h))
          refine pw_iconst hX (k := 1) rfl (by decide) dL_meets_348 (q := 349) rfl ?_
          refine pw_goto hX (tgt := 353) dL_meets_349 (by decide) ?_
          refine pw_istore hX (by decide) dL_meets_353 (q := 355) rfl ?_
          refine pw_iinc hX rfl (by decide) (inc1 _) dL_meets_355 (q := 358) rfl ?_
          refine pw_goto hX (tgt := 184) dL_meets_358 (by decide) ?_
          exact pw_fg hX (lle_cons (lle_cons (lle_cons (lle_cons (lle_cons (lle_cons (lle_cons (lle_cons (lle_cons (lle_cons (lle_cons (lle_none (lle_none (lle_none lle_nil)))))))))))))) (ih (by omega))
        · skip
          refine pw_iload_n hX rfl dL_meets_311 (q := 312) rfl ?_
          refine pw_iload hX rfl dL_meets_312 (q := 314) rfl ?_
          refine pw_iconst hX (k := 0) rfl (by decide) dL_meets_314 (q := 315) rfl ?_
          refine pw_cvI3 hX dL_meets_315 (q := 318) rfl mi_X3_entryOf ml_L_9 rcR ⟨rfl, rfl, by decide, by decide⟩ rfl (Nat.le_of_ble_eq_true rfl) (c_X3_entryOf hVW) ?_
          rw [hV1]
          refine pw_iconst hX (k := 1) rfl (by decide) dL_meets_318 (q := 319) rfl ?_
          refine pw_icmp_ne hX (tgt := 348) dL_meets_319 (q := 322) rfl (by decide) (fun h_319 => ?_) (fun h => False.elim (by exact qEO_ne hn1 (by omega) (by omega) hTa h))
          refine pw_iconst hX (k := 1) rfl (by decide) dL_meets_348 (q := 349) rfl ?_
          refine pw_goto hX (tgt := 353) dL_meets_349 (by decide) ?_
          refine pw_istore hX (by decide) dL_meets_353 (q := 355) rfl ?_
          refine pw_iinc hX rfl (by decide) (inc1 _) dL_meets_355 (q := 358) rfl ?_
          refine pw_goto hX (tgt := 184) dL_meets_358 (by decide) ?_
          exact pw_fg hX (lle_cons (lle_cons (lle_cons (lle_cons (lle_cons (lle_cons (lle_cons (lle_cons (lle_cons (lle_cons (lle_cons (lle_none (lle_none (lle_none lle_nil)))))))))))))) (ih (by omega))
      · refine pw_iload hX rfl dL_meets_246 (q := 248) rfl ?_
        refine pw_aload_n hX rfl dL_meets_248 (q := 249) rfl ?_
        refine pw_iload hX rfl dL_meets_249 (q := 251) rfl ?_
        refine pw_ialdR hX hf9 (show _ < 24 by omega) dL_meets_251 (q := 252) rfl ?_
        rw [h9, wf_a _ _ _ (by omega)]
        refine pw_icmpN_gt hX (by first | omega | exact bits12 _ | exact lt31_and (bits12 _)) (by first | omega | exact bits12 _ | exact lt31_and (bits12 _)) (tgt := 267) dL_meets_252 (q := 255) rfl (by decide) (fun h_252 => ?_) (fun h_252 => ?_)
        · refine pw_iconst hX (k := 1) rfl (by decide) dL_meets_267 (q := 268) rfl ?_
          refine pw_goto hX (tgt := 272) dL_meets_268 (by decide) ?_
          exact pw_eq rfl rfl (by first | (rw [if_pos (decide_eq_true (show V 5 (a * 12 + i) < V' 5 (a * 12 + i) ∨ V 5 (b * 12 + i) < V' 5 (b * 12 + i) by omega))] <;> rfl) | (rw [if_neg (show ¬ decide (V 5 (a * 12 + i) < V' 5 (a * 12 + i) ∨ V 5 (b * 12 + i) < V' 5 (b * 12 + i)) = true from fun z => by have z := of_decide_eq_true z; omega)] <;> rfl)) J246
        · refine pw_iload hX rfl dL_meets_255 (q := 257) rfl ?_
          refine pw_aload_n hX rfl dL_meets_257 (q := 258) rfl ?_
          refine pw_bipush hX (k := 12) (by decide) dL_meets_258 (q := 260) rfl ?_
          refine pw_iload hX rfl dL_meets_260 (q := 262) rfl ?_
          refine pw_iaddN hX dL_meets_262 (q := 263) rfl ?_
          refine pw_ialdR hX hf9 (show _ < 24 by omega) dL_meets_263 (q := 264) rfl ?_
          rw [h9, wf_b _ _ _ (by omega)]
          refine pw_icmpN_le hX (by first | omega | exact bits12 _ | exact lt31_and (bits12 _)) (by first | omega | exact bits12 _ | exact lt31_and (bits12 _)) (tgt := 271) dL_meets_264 (q := 267) rfl (by decide) (fun h_264 => ?_) (fun h_264 => ?_)
          · refine pw_iconst hX (k := 0) rfl (by decide) dL_meets_271 (q := 272) rfl ?_
            exact pw_eq rfl rfl (by first | (rw [if_pos (decide_eq_true (show V 5 (a * 12 + i) < V' 5 (a * 12 + i) ∨ V 5 (b * 12 + i) < V' 5 (b * 12 + i) by omega))] <;> rfl) | (rw [if_neg (show ¬ decide (V 5 (a * 12 + i) < V' 5 (a * 12 + i) ∨ V 5 (b * 12 + i) < V' 5 (b * 12 + i)) = true from fun z => by have z := of_decide_eq_true z; omega)] <;> rfl)) J246
          · refine pw_iconst hX (k := 1) rfl (by decide) dL_meets_267 (q := 268) rfl ?_
            refine pw_goto hX (tgt := 272) dL_meets_268 (by decide) ?_
            exact pw_eq rfl rfl (by first | (rw [if_pos (decide_eq_true (show V 5 (a * 12 + i) < V' 5 (a * 12 + i) ∨ V 5 (b * 12 + i) < V' 5 (b * 12 + i) by omega))] <;> rfl) | (rw [if_neg (show ¬ decide (V 5 (a * 12 + i) < V' 5 (a * 12 + i) ∨ V 5 (b * 12 + i) < V' 5 (b * 12 + i)) = true from fun z => by have z := of_decide_eq_true z; omega)] <;> rfl)) J246
    · refine pw_aload_n hX rfl dL_meets_214 (q := 215) rfl ?_
      refine pw_iload hX rfl dL_meets_215 (q := 217) rfl ?_
      refine pw_ialdR hX hf9 (show _ < 24 by omega) dL_meets_217 (q := 218) rfl ?_
      rw [h9, wf_a _ _ _ (by omega)]
      refine pw_aload_n hX rfl dL_meets_218 (q := 219) rfl ?_
      refine pw_bipush hX (k := 12) (by decide) dL_meets_219 (q := 221) rfl ?_
      refine pw_iload hX rfl dL_meets_221 (q := 223) rfl ?_
      refine pw_iaddN hX dL_meets_223 (q := 224) rfl ?_
      refine pw_ialdR hX hf9 (show _ < 24 by omega) dL_meets_224 (q := 225) rfl ?_
      rw [h9, wf_b _ _ _ (by omega)]
      refine pw_icmpN_le hX (by first | omega | exact bits12 _ | exact lt31_and (bits12 _)) (by first | omega | exact bits12 _ | exact lt31_and (bits12 _)) (tgt := 235) dL_meets_225 (q := 228) rfl (by decide) (fun h_225 => ?_) (fun h_225 => ?_)
      · refine pw_aload_n hX rfl dL_meets_235 (q := 236) rfl ?_
        refine pw_bipush hX (k := 12) (by decide) dL_meets_236 (q := 238) rfl ?_
        refine pw_iload hX rfl dL_meets_238 (q := 240) rfl ?_
        refine pw_iaddN hX dL_meets_240 (q := 241) rfl ?_
        refine pw_ialdR hX hf9 (show _ < 24 by omega) dL_meets_241 (q := 242) rfl ?_
        rw [h9, wf_b _ _ _ (by omega)]
        refine pw_istore hX (by decide) dL_meets_242 (q := 244) rfl ?_
        exact pw_eq rfl (by first | (rw [show mx (V 5 (b * 12 + i)) (V 5 (a * 12 + i)) = V 5 (a * 12 + i) by unfold mx; split <;> omega] <;> rfl) | (rw [show mx (V 5 (b * 12 + i)) (V 5 (a * 12 + i)) = V 5 (b * 12 + i) by unfold mx; split <;> omega] <;> rfl)) rfl J214
      · refine pw_aload_n hX rfl dL_meets_228 (q := 229) rfl ?_
        refine pw_iload hX rfl dL_meets_229 (q := 231) rfl ?_
        refine pw_ialdR hX hf9 (show _ < 24 by omega) dL_meets_231 (q := 232) rfl ?_
        rw [h9, wf_a _ _ _ (by omega)]
        refine pw_goto hX (tgt := 242) dL_meets_232 (by decide) ?_
        refine pw_istore hX (by decide) dL_meets_242 (q := 244) rfl ?_
        exact pw_eq rfl (by first | (rw [show mx (V 5 (b * 12 + i)) (V 5 (a * 12 + i)) = V 5 (a * 12 + i) by unfold mx; split <;> omega] <;> rfl) | (rw [show mx (V 5 (b * 12 + i)) (V 5 (a * 12 + i)) = V 5 (b * 12 + i) by unfold mx; split <;> omega] <;> rfl)) rfl J214
set_option maxHeartbeats 4000000 in
set_option maxRecDepth 20000 in
theorem c_L_meets {l : Launch} {g : Geo} {w : WD} {N G a b : Nat} (hf : g_fl g = false) (hW : WJ w N G 5) (ha : a < 5) (hb : b < 5) (hne : a ≠ b) (hN : N ≤ 2 ^ 20) (hG : G ≤ 2 ^ 20) (sz : Nat) : CtN 1 24 l g sz yL_meets cL_meets 14 (some .boolean) rm_L_meets [.ref (g_ad g 10 0), .int (nI a), .int (nI b)] w (fun r w' => r = some (.int (nI 1)) ∧ WJ w' N (G + 12) 5) := by
  have hJ := hW.2.2.1
  have h5 : w.1 0 0 0 = 5 := hW.2.2.2
  have hn : w.1 0 0 0 ≤ 7 := by omega
  have hV : bV (w.1 0) := (J_b hJ hN).1
  have ca := (hJ.2.2.2.2.1 a (by omega)).2.1
  have cb := (hJ.2.2.2.2.1 b (by omega)).2.1
  have sa := (hJ.2.2.2.2.1 a (by omega)).1
  have sb := (hJ.2.2.2.2.1 b (by omega)).1
  refine ct_ofN mi_L_meets.2.2.2.2 ⟨rfl, rfl⟩ (List.forall_mem_cons.mpr ⟨rfl, List.forall_mem_cons.mpr ⟨rfl, List.forall_mem_cons.mpr ⟨rfl, fun _ h => absurd h List.not_mem_nil⟩⟩⟩) (Nat.le_of_ble_eq_true rfl) (fun p e s m args below meth c Q A h => ?_)
  show PW l g rm_L_meets 14 p e s m args below meth c Q A 0 0 w 0 [some (.ref (g_ad g 10 0)), some (.int (nI a)), some (.int (nI b)), none, none, none, none, none, none, none, none, none, none, none] []
  refine pw_bipush (h.gd (by decide) (Nat.zero_le _) (Nat.zero_le _)) (k := 24) (by decide) dL_meets_0 (q := 2) rfl ?_
  refine pw_newR h hf (by decide) (by decide) dL_meets_2 (q := 4) rfl (fun ad hg => ?_)
  have hX := hg.gd (by decide) (n := 0 + 1) (k := 0 + 24) (Nat.le_refl _) (Nat.le_refl _)
  rw [show g_ad g 10 0 = g_ad (gR g ad) 10 0 from (gR_a g ad 0 (by decide)).symm]
  have hf9 := gR_fl g ad
  revert hX
  clear h hg
  generalize PW l (gR g ad) rm_L_meets 14 p e s m args below meth c Q A (0 + 1) (0 + 24) = P
  intro hX
  revert hX hf9
  generalize gR g ad = g'
  intro hf9 hX
  refine pw_astore_n hX (by decide) dL_meets_4 (q := 5) rfl ?_
  refine pw_iconst hX (k := 0) rfl (by decide) dL_meets_5 (q := 6) rfl ?_
  refine pw_istore hX (by decide) dL_meets_6 (q := 8) rfl ?_
  suffices L : ∀ i, i ≤ 12 → P (wA w 9 1 (wf (w.1 0) a b i)) 8 [some (.ref (g_ad g' 10 0)), some (.int (nI (a))), some (.int (nI (b))), some (.ref (g_ad g' 9 1)), some (.int (nI (i))), none, none, none, none, none, none, none, none, none] [] by exact pw_eq (by rw [wf_0]) rfl rfl (L 0 (Nat.zero_le _))
  refine loopUp (fun i hi ih => ?_)
  refine pw_iload hX rfl dL_meets_8 (q := 10) rfl ?_
  refine pw_bipush hX (k := 12) (by decide) dL_meets_10 (q := 12) rfl ?_
  refine pw_icmpN_ge hX (by first | omega | exact bits12 _ | exact lt31_and (bits12 _)) (by first | omega | exact bits12 _ | exact lt31_and (bits12 _)) (tgt := 46) dL_meets_12 (q := 15) rfl (by decide) (fun h_12 => ?_) (fun h_12 => ?_)
  · obtain rfl : i = 12 := by omega
    refine pw_aload_n hX rfl dL_meets_46 (q := 47) rfl ?_
    refine pw_iload_n hX rfl dL_meets_47 (q := 48) rfl ?_
    refine pw_iload_n hX rfl dL_meets_48 (q := 49) rfl ?_
    refine pw_cvI2 hX dL_meets_49 (q := 52) rfl mi_X3_unlike ml_L_32 rcR ⟨rfl, rfl, by decide, by decide⟩ rfl (Nat.le_of_ble_eq_true rfl) (c_X3_unlike (w9V hV)) ?_
    rw [w9_0, qUnl_at hn (by omega) (by omega)]
    refine pw_istore hX (by decide) dL_meets_52 (q := 54) rfl ?_
    refine jn (A := P (wA w 9 1 (wf (w.1 0) a b 12)) 84 [some (.ref (g_ad g' 10 0)), some (.int (nI (a))), some (.int (nI (b))), some (.ref (g_ad g' 9 1)), some (.int (nI (bits (fun t => !(decide ((w.1 0) 5 (a * 12 + t) = (w.1 0) 5 (b * 12 + t)))) 12))), none, none, none, none, none, none, none, none, none] [.int (nI (mx ((w.1 0) 2 a) ((w.1 0) 2 b)))]) ?_ (fun J54 => ?_)
    · skip
      refine pw_istore hX (by decide) dL_meets_84 (q := 86) rfl ?_
      refine pw_aload_n hX rfl dL_meets_86 (q := 87) rfl ?_
      refine pw_bipush hX (k := 8) (by decide) dL_meets_87 (q := 89) rfl ?_
      refine pw_cvI1 hX dL_meets_89 (q := 92) rfl mi_X3_count ml_L_15 rcR ⟨rfl, rfl, by decide, by decide⟩ rfl (Nat.le_of_ble_eq_true rfl) (c_X3_count (w9V hV)) ?_
      rw [w9_0, qCnt_8]
      refine pw_istore hX (by decide) dL_meets_92 (q := 94) rfl ?_
      refine pw_aload_n hX rfl dL_meets_94 (q := 95) rfl ?_
      rcases (show (w.1 0 1 a = 0 ∧ w.1 0 1 b = 0) ∨ w.1 0 1 a ≠ 0 ∨ (w.1 0 1 a = 0 ∧ w.1 0 1 b ≠ 0) by omega) with ⟨hsa, hsb⟩ | hsa | ⟨hsa, hsb⟩
      · skip
        refine pw_iload_n hX rfl dL_meets_95 (q := 96) rfl ?_
        refine pw_iload_n hX rfl dL_meets_96 (q := 97) rfl ?_
        refine pw_cvI2 hX dL_meets_97 (q := 100) rfl mi_X3_meet ml_L_35 rcR ⟨rfl, rfl, by decide, by decide⟩ rfl (Nat.le_of_ble_eq_true rfl) (c_X3_meet (w9W hW).1 (w9V hV)) ?_
        rw [w9_0, kMeet_at hn (by omega) (by omega) hne, if_pos ⟨hsa, hsb⟩]
        have hT := Tk_spec hJ (show a < 7 by omega) (show b < 7 by omega) hne (by omega) (by omega)
        have ht12 : (kTk (w.1 0) a b).2 ≤ 12 := kTt_n (w.1 0) a b 12
        revert hT ht12
        generalize kTk (w.1 0) a b = KK
        intro hT ht12
        obtain ⟨k1, k0, hk2a, hk2b, kF, kg1, kg2⟩ := hT
        have hr := WJ_rec (w9W (f := wf (w.1 0) a b 12) hW) k1 (show KK.1 0 0 = 5 by rw [k0]; exact h5) (nI KK.2)
        exact meets_b hX hf9 ha hb hN hG hr.1 hr.2 (by rw [Rec_9 (w9W (f := wf (w.1 0) a b 12) hW).1, wA_s]) hJ h5 k1 (by rw [k0]) hk2a hk2b kF kg1 kg2 ht12
      · skip
        refine pw_iload_n hX rfl dL_meets_95 (q := 96) rfl ?_
        refine pw_iload_n hX rfl dL_meets_96 (q := 97) rfl ?_
        refine pw_cvI2 hX dL_meets_97 (q := 100) rfl mi_X3_meet ml_L_35 rcR ⟨rfl, rfl, by decide, by decide⟩ rfl (Nat.le_of_ble_eq_true rfl) (c_X3_meet (w9W hW).1 (w9V hV)) ?_
        rw [w9_0, kMeet_at hn (by omega) (by omega) hne, if_neg (by omega)]
        have hr := WJ_rec (w9W (f := wf (w.1 0) a b 12) hW) (J_le hJ (Nat.le_refl _) (show G ≤ G + 12 by omega)) h5 (-1000002)
        obtain ⟨hS1, hV1⟩ := hr
        dsimp only
        revert hS1 hV1
        generalize Rec (wO (Prep (wA w 9 1 (wf (w.1 0) a b 12))) 0 (w.1 0)) (-1000002) = W1
        intro hS1 hV1
        have hVW : bV (W1.1 0) := (J_b hS1.2.2.1 hN).1
        have hG1 := nGh_le hJ
        refine pw_istore hX (by decide) dL_meets_100 (q := 102) rfl ?_
        refine pw_iload hX rfl dL_meets_102 (q := 104) rfl ?_
        refine pw_if_ge hX (tgt := 149) dL_meets_104 (q := 107) rfl (by decide) (fun h => False.elim (by exact absurd h (by decide))) (fun h_104 => ?_)
        refine pw_iload hX rfl dL_meets_107 (q := 109) rfl ?_
        refine pw_ldc hX cn_L_38 dL_meets_109 (q := 111) rfl ?_
        refine pw_icmp_ne hX (tgt := 147) dL_meets_111 (q := 114) rfl (by decide) (fun h => False.elim (by exact h rfl)) (fun h_111 => ?_)
        refine pw_aload_n hX rfl dL_meets_114 (q := 115) rfl ?_
        refine pw_iload_n hX rfl dL_meets_115 (q := 116) rfl ?_
        refine pw_iconst hX (k := 0) rfl (by decide) dL_meets_116 (q := 117) rfl ?_
        refine pw_cvI2 hX dL_meets_117 (q := 120) rfl mi_X3_villagerOf ml_L_19 rcR ⟨rfl, rfl, by decide, by decide⟩ rfl (Nat.le_of_ble_eq_true rfl) (c_X3_villagerOf hVW) ?_
        rw [hV1, qOf_0 hn (by omega)]
        refine pw_ifN_gt hX (by first | omega | exact bits12 _ | exact lt31_and (bits12 _)) (tgt := 132) dL_meets_120 (q := 123) rfl (by decide) (fun h_120 => ?_) (fun h => False.elim (by first | omega | exact absurd h (by decide) | exact h (by decide) | exact h rfl))
        refine pw_aload_n hX rfl dL_meets_132 (q := 133) rfl ?_
        refine pw_bipush hX (k := 8) (by decide) dL_meets_133 (q := 135) rfl ?_
        refine pw_cvI1 hX dL_meets_135 (q := 138) rfl mi_X3_count ml_L_15 rcR ⟨rfl, rfl, by decide, by decide⟩ rfl (Nat.le_of_ble_eq_true rfl) (c_X3_count hVW) ?_
        rw [hV1, qCnt_8]
        refine pw_iload hX rfl dL_meets_138 (q := 140) rfl ?_
        refine pw_icmpN_ne hX (by first | omega | exact bits12 _ | exact lt31_and (bits12 _)) (by first | omega | exact bits12 _ | exact lt31_and (bits12 _)) (tgt := 147) dL_meets_140 (q := 143) rfl (by decide) (fun h => False.elim (by first | omega | exact absurd h (by decide) | exact h (by decide) | exact h rfl)) (fun h_140 => ?_)
        refine pw_iconst hX (k := 1) rfl (by decide) dL_meets_143 (q := 144) rfl ?_
        refine pw_goto hX (tgt := 148) dL_meets_144 (by decide) ?_
        refine pw_ireturn hX dL_meets_148 ⟨_, rfl, by first | exact bI_nar _ | decide | rfl⟩ ⟨congrArg (fun z => some (Value.int z)) ?_, ?_⟩
        · rfl
        · exact hS1
      · skip
        refine pw_iload_n hX rfl dL_meets_95 (q := 96) rfl ?_
        refine pw_iload_n hX rfl dL_meets_96 (q := 97) rfl ?_
        refine pw_cvI2 hX dL_meets_97 (q := 100) rfl mi_X3_meet ml_L_35 rcR ⟨rfl, rfl, by decide, by decide⟩ rfl (Nat.le_of_ble_eq_true rfl) (c_X3_meet (w9W hW).1 (w9V hV)) ?_
        rw [w9_0, kMeet_at hn (by omega) (by omega) hne, if_neg (by omega)]
        have hr := WJ_rec (w9W (f := wf (w.1 0) a b 12) hW) (J_le hJ (Nat.le_refl _) (show G ≤ G + 12 by omega)) h5 (-1000002)
        obtain ⟨hS1, hV1⟩ := hr
        dsimp only
        revert hS1 hV1
        generalize Rec (wO (Prep (wA w 9 1 (wf (w.1 0) a b 12))) 0 (w.1 0)) (-1000002) = W1
        intro hS1 hV1
        have hVW : bV (W1.1 0) := (J_b hS1.2.2.1 hN).1
        have hG1 := nGh_le hJ
        refine pw_istore hX (by decide) dL_meets_100 (q := 102) rfl ?_
        refine pw_iload hX rfl dL_meets_102 (q := 104) rfl ?_
        refine pw_if_ge hX (tgt := 149) dL_meets_104 (q := 107) rfl (by decide) (fun h => False.elim (by exact absurd h (by decide))) (fun h_104 => ?_)
        refine pw_iload hX rfl dL_meets_107 (q := 109) rfl ?_
        refine pw_ldc hX cn_L_38 dL_meets_109 (q := 111) rfl ?_
        refine pw_icmp_ne hX (tgt := 147) dL_meets_111 (q := 114) rfl (by decide) (fun h => False.elim (by exact h rfl)) (fun h_111 => ?_)
        refine pw_aload_n hX rfl dL_meets_114 (q := 115) rfl ?_
        refine pw_iload_n hX rfl dL_meets_115 (q := 116) rfl ?_
        refine pw_iconst hX (k := 0) rfl (by decide) dL_meets_116 (q := 117) rfl ?_
        refine pw_cvI2 hX dL_meets_117 (q := 120) rfl mi_X3_villagerOf ml_L_19 rcR ⟨rfl, rfl, by decide, by decide⟩ rfl (Nat.le_of_ble_eq_true rfl) (c_X3_villagerOf hVW) ?_
        rw [hV1, qOf_0 hn (by omega)]
        refine pw_ifN_gt hX (by first | omega | exact bits12 _ | exact lt31_and (bits12 _)) (tgt := 132) dL_meets_120 (q := 123) rfl (by decide) (fun h => False.elim (by first | omega | exact absurd h (by decide) | exact h (by decide) | exact h rfl)) (fun h_120 => ?_)
        refine pw_aload_n hX rfl dL_meets_123 (q := 124) rfl ?_
        refine pw_iload_n hX rfl dL_meets_124 (q := 125) rfl ?_
        refine pw_iconst hX (k := 0) rfl (by decide) dL_meets_125 (q := 126) rfl ?_
        refine pw_cvI2 hX dL_meets_126 (q := 129) rfl mi_X3_villagerOf ml_L_19 rcR ⟨rfl, rfl, by decide, by decide⟩ rfl (Nat.le_of_ble_eq_true rfl) (c_X3_villagerOf hVW) ?_
        rw [hV1, qOf_0 hn (by omega)]
        refine pw_ifN_le hX (by first | omega | exact bits12 _ | exact lt31_and (bits12 _)) (tgt := 147) dL_meets_129 (q := 132) rfl (by decide) (fun h => False.elim (by first | omega | exact absurd h (by decide) | exact h (by decide) | exact h rfl)) (fun h_129 => ?_)
        refine pw_aload_n hX rfl dL_meets_132 (q := 133) rfl ?_
        refine pw_bipush hX (k := 8) (by decide) dL_meets_133 (q := 135) rfl ?_
        refine pw_cvI1 hX dL_meets_135 (q := 138) rfl mi_X3_count ml_L_15 rcR ⟨rfl, rfl, by decide, by decide⟩ rfl (Nat.le_of_ble_eq_true rfl) (c_X3_count hVW) ?_
        rw [hV1, qCnt_8]
        refine pw_iload hX rfl dL_meets_138 (q := 140) rfl ?_
        refine pw_icmpN_ne hX (by first | omega | exact bits12 _ | exact lt31_and (bits12 _)) (by first | omega | exact bits12 _ | exact lt31_and (bits12 _)) (tgt := 147) dL_meets_140 (q := 143) rfl (by decide) (fun h => False.elim (by first | omega | exact absurd h (by decide) | exact h (by decide) | exact h rfl)) (fun h_140 => ?_)
        refine pw_iconst hX (k := 1) rfl (by decide) dL_meets_143 (q := 144) rfl ?_
        refine pw_goto hX (tgt := 148) dL_meets_144 (by decide) ?_
        refine pw_ireturn hX dL_meets_148 ⟨_, rfl, by first | exact bI_nar _ | decide | rfl⟩ ⟨congrArg (fun z => some (Value.int z)) ?_, ?_⟩
        · rfl
        · exact hS1
    · refine pw_aload_n hX rfl dL_meets_54 (q := 55) rfl ?_
      refine pw_iload_n hX rfl dL_meets_55 (q := 56) rfl ?_
      refine pw_iconst hX (k := 1) rfl (by decide) dL_meets_56 (q := 57) rfl ?_
      refine pw_cvI2 hX dL_meets_57 (q := 60) rfl mi_X3_villagerOf ml_L_19 rcR ⟨rfl, rfl, by decide, by decide⟩ rfl (Nat.le_of_ble_eq_true rfl) (c_X3_villagerOf (w9V hV)) ?_
      rw [w9_0, qOf_1 hn (by omega)]
      refine pw_aload_n hX rfl dL_meets_60 (q := 61) rfl ?_
      refine pw_iload_n hX rfl dL_meets_61 (q := 62) rfl ?_
      refine pw_iconst hX (k := 1) rfl (by decide) dL_meets_62 (q := 63) rfl ?_
      refine pw_cvI2 hX dL_meets_63 (q := 66) rfl mi_X3_villagerOf ml_L_19 rcR ⟨rfl, rfl, by decide, by decide⟩ rfl (Nat.le_of_ble_eq_true rfl) (c_X3_villagerOf (w9V hV)) ?_
      rw [w9_0, qOf_1 hn (by omega)]
      refine pw_icmpN_le hX (by first | omega | exact bits12 _ | exact lt31_and (bits12 _)) (by first | omega | exact bits12 _ | exact lt31_and (bits12 _)) (tgt := 78) dL_meets_66 (q := 69) rfl (by decide) (fun h_66 => ?_) (fun h_66 => ?_)
      · refine pw_aload_n hX rfl dL_meets_78 (q := 79) rfl ?_
        refine pw_iload_n hX rfl dL_meets_79 (q := 80) rfl ?_
        refine pw_iconst hX (k := 1) rfl (by decide) dL_meets_80 (q := 81) rfl ?_
        refine pw_cvI2 hX dL_meets_81 (q := 84) rfl mi_X3_villagerOf ml_L_19 rcR ⟨rfl, rfl, by decide, by decide⟩ rfl (Nat.le_of_ble_eq_true rfl) (c_X3_villagerOf (w9V hV)) ?_
        rw [w9_0, qOf_1 hn (by omega)]
        exact pw_eq rfl rfl (by first | (rw [show mx ((w.1 0) 2 a) ((w.1 0) 2 b) = w.1 0 2 a by unfold mx; split <;> omega] <;> rfl) | (rw [show mx ((w.1 0) 2 a) ((w.1 0) 2 b) = w.1 0 2 b by unfold mx; split <;> omega] <;> rfl)) J54
      · refine pw_aload_n hX rfl dL_meets_69 (q := 70) rfl ?_
        refine pw_iload_n hX rfl dL_meets_70 (q := 71) rfl ?_
        refine pw_iconst hX (k := 1) rfl (by decide) dL_meets_71 (q := 72) rfl ?_
        refine pw_cvI2 hX dL_meets_72 (q := 75) rfl mi_X3_villagerOf ml_L_19 rcR ⟨rfl, rfl, by decide, by decide⟩ rfl (Nat.le_of_ble_eq_true rfl) (c_X3_villagerOf (w9V hV)) ?_
        rw [w9_0, qOf_1 hn (by omega)]
        refine pw_goto hX (tgt := 84) dL_meets_75 (by decide) ?_
        exact pw_eq rfl rfl (by first | (rw [show mx ((w.1 0) 2 a) ((w.1 0) 2 b) = w.1 0 2 a by unfold mx; split <;> omega] <;> rfl) | (rw [show mx ((w.1 0) 2 a) ((w.1 0) 2 b) = w.1 0 2 b by unfold mx; split <;> omega] <;> rfl)) J54
  · have hi12 : i < 12 := by omega
    refine pw_aload_n hX rfl dL_meets_15 (q := 16) rfl ?_
    refine pw_iload hX rfl dL_meets_16 (q := 18) rfl ?_
    refine pw_aload_n hX rfl dL_meets_18 (q := 19) rfl ?_
    refine pw_iload_n hX rfl dL_meets_19 (q := 20) rfl ?_
    refine pw_iload hX rfl dL_meets_20 (q := 22) rfl ?_
    refine pw_csI3 hX dL_meets_22 (q := 25) rfl mi_L_rank ml_L_26 ⟨rfl, rfl, by decide, by decide⟩ rfl (Nat.le_of_ble_eq_true rfl) (c_L_rank (w9V hV) (by rw [w9_0]; omega) (by omega)) ?_
    rw [w9_0]
    refine pw_iastR hX hf9 (show _ < 24 by omega) dL_meets_25 (q := 26) rfl ?_
    refine pw_aload_n hX rfl dL_meets_26 (q := 27) rfl ?_
    refine pw_bipush hX (k := 12) (by decide) dL_meets_27 (q := 29) rfl ?_
    refine pw_iload hX rfl dL_meets_29 (q := 31) rfl ?_
    refine pw_iaddN hX dL_meets_31 (q := 32) rfl ?_
    refine pw_aload_n hX rfl dL_meets_32 (q := 33) rfl ?_
    refine pw_iload_n hX rfl dL_meets_33 (q := 34) rfl ?_
    refine pw_iload hX rfl dL_meets_34 (q := 36) rfl ?_
    refine pw_csI3 hX dL_meets_36 (q := 39) rfl mi_L_rank ml_L_26 ⟨rfl, rfl, by decide, by decide⟩ rfl (Nat.le_of_ble_eq_true rfl) (c_L_rank (w9V hV) (by rw [w9_0]; omega) (by omega)) ?_
    rw [w9_0]
    refine pw_iastR hX hf9 (show _ < 24 by omega) dL_meets_39 (q := 40) rfl ?_
    refine pw_iinc hX rfl (by decide) (inc1 _) dL_meets_40 (q := 43) rfl ?_
    refine pw_goto hX (tgt := 8) dL_meets_43 (by decide) ?_
    exact pw_eq (by rw [wf_s _ _ _ (by omega)]) rfl rfl (ih (by omega))
