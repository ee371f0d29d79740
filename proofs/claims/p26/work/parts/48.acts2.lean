set_option maxHeartbeats 2000000 in
set_option maxRecDepth 20000 in
theorem c_L_acts {l : Launch} {g : Geo} {w : WD} {N G y : Nat} (hf : g_fl g = false) (hW : WJ w N G 5) (hN : N ≤ 1000) (hG : G ≤ 2 ^ 20) (hy : y < 2 ^ 31) (sz : Nat) : CtN 1 24 l g sz yL_acts cL_acts 17 (some .boolean) rm_L_acts [.ref (g_ad g 10 0), .int (nI y)] w (Fn (N + 1) (G + 12)) := by
  have hJ := hW.2.2.1
  have h5 : w.1 0 0 0 = 5 := hW.2.2.2
  have hn : w.1 0 0 0 ≤ 7 := by omega
  have hV : bV (w.1 0) := (J_b hJ (by omega)).1
  refine ct_ofN mi_L_acts.2.2.2.2 ⟨rfl, rfl⟩ (List.forall_mem_cons.mpr ⟨rfl, List.forall_mem_cons.mpr ⟨rfl, fun _ h => absurd h List.not_mem_nil⟩⟩) (Nat.le_of_ble_eq_true rfl) (fun p e s m args below meth c Q A h => ?_)
  have hX := h.gd (by decide) (n := 0) (k := 0) (Nat.zero_le _) (Nat.zero_le _)
  show PW l g rm_L_acts 17 p e s m args below meth c Q A 0 0 w 0 [some (.ref (g_ad g 10 0)), some (.int (nI y)), none, none, none, none, none, none, none, none, none, none, none, none, none, none, none] []
  refine pw_iload_n hX rfl dL_acts_0 (q := 1) rfl ?_
  refine pw_bipush hX (k := 16) (by decide) dL_acts_1 (q := 3) rfl ?_
  refine pw_idivN hX (by first | omega) (by decide) (by decide) dL_acts_3 (q := 4) rfl ?_
  refine pw_istore_n hX (by decide) dL_acts_4 (q := 5) rfl ?_
  refine pw_iload_n hX rfl dL_acts_5 (q := 6) rfl ?_
  refine pw_iconst hX (k := 5) rfl (by decide) dL_acts_6 (q := 7) rfl ?_
  refine pw_iremN hX (by first | omega) (by decide) (by decide) dL_acts_7 (q := 8) rfl ?_
  refine pw_istore_n hX (by decide) dL_acts_8 (q := 9) rfl ?_
  refine pw_iload_n hX rfl dL_acts_9 (q := 10) rfl ?_
  refine pw_iconst hX (k := 1) rfl (by decide) dL_acts_10 (q := 11) rfl ?_
  refine pw_iaddN hX dL_acts_11 (q := 12) rfl ?_
  refine pw_iload_n hX rfl dL_acts_12 (q := 13) rfl ?_
  refine pw_bipush hX (k := 8) (by decide) dL_acts_13 (q := 15) rfl ?_
  refine pw_idivN hX (by first | omega) (by decide) (by decide) dL_acts_15 (q := 16) rfl ?_
  refine pw_iconst hX (k := 4) rfl (by decide) dL_acts_16 (q := 17) rfl ?_
  refine pw_iremN hX (by first | omega) (by decide) (by decide) dL_acts_17 (q := 18) rfl ?_
  refine pw_iaddN hX dL_acts_18 (q := 19) rfl ?_
  refine pw_iconst hX (k := 5) rfl (by decide) dL_acts_19 (q := 20) rfl ?_
  refine pw_iremN hX (by first | omega) (by decide) (by decide) dL_acts_20 (q := 21) rfl ?_
  refine pw_istore hX (by decide) dL_acts_21 (q := 23) rfl ?_
  refine pw_iload_n hX rfl dL_acts_23 (q := 24) rfl ?_
  refine pw_bipush hX (k := 32) (by decide) dL_acts_24 (q := 26) rfl ?_
  refine pw_idivN hX (by first | omega) (by decide) (by decide) dL_acts_26 (q := 27) rfl ?_
  refine pw_iconst hX (k := 3) rfl (by decide) dL_acts_27 (q := 28) rfl ?_
  refine pw_iremN hX (by first | omega) (by decide) (by decide) dL_acts_28 (q := 29) rfl ?_
  refine pw_istore hX (by decide) dL_acts_29 (q := 31) rfl ?_
  refine pw_aload_n hX rfl dL_acts_31 (q := 32) rfl ?_
  refine pw_iload_n hX rfl dL_acts_32 (q := 33) rfl ?_
  refine pw_iconst hX (k := 1) rfl (by decide) dL_acts_33 (q := 34) rfl ?_
  refine pw_cvI2 hX dL_acts_34 (q := 37) rfl mi_X3_villagerOf ml_L_19 rcR ⟨rfl, rfl, by decide, by decide⟩ rfl (Nat.le_of_ble_eq_true rfl) (c_X3_villagerOf hV) ?_
  rw [qOf_1 hn (by omega)]
  refine pw_istore hX (by decide) dL_acts_37 (q := 39) rfl ?_
  refine pw_iload_n hX rfl dL_acts_39 (q := 40) rfl ?_
  refine pw_bipush hX (k := 16) (by decide) dL_acts_40 (q := 42) rfl ?_
  refine pw_iremN hX (by first | omega) (by decide) (by decide) dL_acts_42 (q := 43) rfl ?_
  have hvu : y / 16 % 5 ≠ (y / 16 % 5 + 1 + y / 16 / 8 % 4) % 5 := by omega
  have hv : y / 16 % 5 < 5 := by omega
  have hu : (y / 16 % 5 + 1 + y / 16 / 8 % 4) % 5 < 5 := by omega
  have ht : y / 16 / 32 % 3 < 3 := by omega
  have hz : y / 16 < 2 ^ 31 := by omega
  have hm : y % 16 < 16 := by omega
  show PW l g rm_L_acts 17 p e s m args below meth c Q A 0 0 w 43 [some (.ref (g_ad g 10 0)), some (.int (nI y)), some (.int (nI (y / 16))), some (.int (nI (y / 16 % 5))), some (.int (nI ((y / 16 % 5 + 1 + y / 16 / 8 % 4) % 5))), some (.int (nI (y / 16 / 32 % 3))), some (.int (nI (w.1 0 2 (y / 16 % 5)))), none, none, none, none, none, none, none, none, none, none] [.int (nI (y % 16))]
  revert hvu hv hu ht hz hm
  generalize (y / 16 % 5 + 1 + y / 16 / 8 % 4) % 5 = u
  generalize y / 16 / 32 % 3 = t
  generalize y / 16 % 5 = v
  generalize y / 16 = z
  generalize y % 16 = k
  intro hvu hv hu ht hz hm
  rcases (show k = 0 ∨ k = 1 ∨ k = 2 ∨ k = 3 ∨ k = 4 ∨ k = 5 ∨ k = 6 ∨ k = 7 ∨ k = 8 ∨ k = 9 ∨ k = 10 ∨ k = 11 ∨ k = 12 ∨ k = 13 ∨ k = 14 ∨ k = 15 by omega) with rfl | rfl | rfl | rfl | rfl | rfl | rfl | rfl | rfl | rfl | rfl | rfl | rfl | hk | hk | hk
  · refine pw_tabIn hX (tgt := 108) (off := 65) dL_acts_43 (by decide) (by decide) (by decide) (by decide) ?_
    exact ac_108 hX hW hN hG hv ht hz
  · refine pw_tabIn hX (tgt := 108) (off := 65) dL_acts_43 (by decide) (by decide) (by decide) (by decide) ?_
    exact ac_108 hX hW hN hG hv ht hz
  · refine pw_tabIn hX (tgt := 108) (off := 65) dL_acts_43 (by decide) (by decide) (by decide) (by decide) ?_
    exact ac_108 hX hW hN hG hv ht hz
  · refine pw_tabIn hX (tgt := 209) (off := 166) dL_acts_43 (by decide) (by decide) (by decide) (by decide) ?_
    exact ac_209 hX hW hN hG hv ht hz
  · refine pw_tabIn hX (tgt := 209) (off := 166) dL_acts_43 (by decide) (by decide) (by decide) (by decide) ?_
    exact ac_209 hX hW hN hG hv ht hz
  · refine pw_tabIn hX (tgt := 209) (off := 166) dL_acts_43 (by decide) (by decide) (by decide) (by decide) ?_
    exact ac_209 hX hW hN hG hv ht hz
  · refine pw_tabIn hX (tgt := 323) (off := 280) dL_acts_43 (by decide) (by decide) (by decide) (by decide) ?_
    exact ac_323 hX hW hN hG hv ht hz
  · refine pw_tabIn hX (tgt := 368) (off := 325) dL_acts_43 (by decide) (by decide) (by decide) (by decide) ?_
    exact ac_368 hX hW hN hG hv ht hz
  · refine pw_tabIn hX (tgt := 368) (off := 325) dL_acts_43 (by decide) (by decide) (by decide) (by decide) ?_
    exact ac_368 hX hW hN hG hv ht hz
  · refine pw_tabIn hX (tgt := 402) (off := 359) dL_acts_43 (by decide) (by decide) (by decide) (by decide) ?_
    exact ac_402 hX hW hN hG hv ht hz
  · refine pw_tabIn hX (tgt := 402) (off := 359) dL_acts_43 (by decide) (by decide) (by decide) (by decide) ?_
    exact ac_402 hX hW hN hG hv ht hz
  · refine pw_tabIn hX (tgt := 492) (off := 449) dL_acts_43 (by decide) (by decide) (by decide) (by decide) ?_
    exact ac_492 hX hW hN hG hv ht hz
  · refine pw_tabIn hX (tgt := 512) (off := 469) dL_acts_43 (by decide) (by decide) (by decide) (by decide) ?_
    exact ac_512 hX hW hN hG hv ht hz
  · subst hk
    refine pw_tabOut hX (tgt := 538) dL_acts_43 (by decide) (by decide) ?_
    refine pw_aload_n hX rfl dL_acts_538 (q := 539) rfl ?_
    refine pw_iload_n hX rfl dL_acts_539 (q := 540) rfl ?_
    refine pw_iload hX rfl dL_acts_540 (q := 542) rfl ?_
    refine pw_csN h (mc' := 1) (ms' := 24) (by decide) (by decide) (As := [.ref (g_ad g 10 0), .int (nI v), .int (nI u)]) (st := []) dL_acts_542 (q := 545) rfl mi_L_meets ml_L_62 ⟨rfl, rfl, by decide, by decide⟩ rfl rfl (Nat.le_of_ble_eq_true rfl) (fun sz => c_L_meets hf hW hv hu hvu (by omega) hG sz) (fun r w' hr => ?_)
    obtain ⟨rfl, hw'⟩ := hr
    exact pw_ireturn (h.gd (by decide) (n := 0 + 1) (k := 0 + 24) (Nat.le_refl _) (Nat.le_refl _)) dL_acts_545 ⟨_, rfl, by decide⟩ ⟨rfl, WJ_le hw' (by omega) (Nat.le_refl _)⟩
  · subst hk
    refine pw_tabOut hX (tgt := 538) dL_acts_43 (by decide) (by decide) ?_
    refine pw_aload_n hX rfl dL_acts_538 (q := 539) rfl ?_
    refine pw_iload_n hX rfl dL_acts_539 (q := 540) rfl ?_
    refine pw_iload hX rfl dL_acts_540 (q := 542) rfl ?_
    refine pw_csN h (mc' := 1) (ms' := 24) (by decide) (by decide) (As := [.ref (g_ad g 10 0), .int (nI v), .int (nI u)]) (st := []) dL_acts_542 (q := 545) rfl mi_L_meets ml_L_62 ⟨rfl, rfl, by decide, by decide⟩ rfl rfl (Nat.le_of_ble_eq_true rfl) (fun sz => c_L_meets hf hW hv hu hvu (by omega) hG sz) (fun r w' hr => ?_)
    obtain ⟨rfl, hw'⟩ := hr
    exact pw_ireturn (h.gd (by decide) (n := 0 + 1) (k := 0 + 24) (Nat.le_refl _) (Nat.le_refl _)) dL_acts_545 ⟨_, rfl, by decide⟩ ⟨rfl, WJ_le hw' (by omega) (Nat.le_refl _)⟩
  · subst hk
    refine pw_tabOut hX (tgt := 538) dL_acts_43 (by decide) (by decide) ?_
    refine pw_aload_n hX rfl dL_acts_538 (q := 539) rfl ?_
    refine pw_iload_n hX rfl dL_acts_539 (q := 540) rfl ?_
    refine pw_iload hX rfl dL_acts_540 (q := 542) rfl ?_
    refine pw_csN h (mc' := 1) (ms' := 24) (by decide) (by decide) (As := [.ref (g_ad g 10 0), .int (nI v), .int (nI u)]) (st := []) dL_acts_542 (q := 545) rfl mi_L_meets ml_L_62 ⟨rfl, rfl, by decide, by decide⟩ rfl rfl (Nat.le_of_ble_eq_true rfl) (fun sz => c_L_meets hf hW hv hu hvu (by omega) hG sz) (fun r w' hr => ?_)
    obtain ⟨rfl, hw'⟩ := hr
    exact pw_ireturn (h.gd (by decide) (n := 0 + 1) (k := 0 + 24) (Nat.le_refl _) (Nat.le_refl _)) dL_acts_545 ⟨_, rfl, by decide⟩ ⟨rfl, WJ_le hw' (by omega) (Nat.le_refl _)⟩
abbrev rm_L_cell : Room := { frames := 0, cells := 0, slots := 0, locals := 0 }
set_option maxHeartbeats 2000000 in
set_option maxRecDepth 20000 in
theorem c_L_cell {l : Launch} {g : Geo} {w : WD} {b L k : Nat} {xs : Nat → Int32} (hL : L ≤ 260) (hk : k < 34) : CtS b L xs l g yL_cell cL_cell 2 (some .int) rm_L_cell [.ref b, .int (nI k)] w (fun r w' => (∃ y, y < 2 ^ 31 ∧ r = some (.int (nI y))) ∧ w' = w) := by
  refine ct_ofS mi_L_cell.2.2.2.2 ⟨rfl, rfl⟩ (List.forall_mem_cons.mpr ⟨rfl, List.forall_mem_cons.mpr ⟨rfl, fun _ h => absurd h List.not_mem_nil⟩⟩) (Nat.le_of_ble_eq_true rfl) (fun P hX => ?_)
  replace hX : Gd l g RL cL_cell rm_L_cell 2 (some .int) _ _ P := hX
  show P w 0 [some (.ref b), some (.int (nI k))] []
  have fin : ∀ x : Int32, P w 19 [some (.ref b), some (.int (nI k))] [.int x] := fun x => by
    refine pw_ldc hX cn_L_8 dL_cell_19 (q := 21) rfl ?_
    refine pw_iand hX dL_cell_21 (q := 22) rfl ?_
    obtain ⟨y, hy, he⟩ := mask_nn x
    rw [he]
    exact pw_ireturn hX dL_cell_22 ⟨_, rfl, rfl⟩ ⟨⟨y, hy, rfl⟩, rfl⟩
  refine pw_iload_n hX rfl dL_cell_0 (q := 1) rfl ?_
  refine pw_aload_n hX rfl dL_cell_1 (q := 2) rfl ?_
  refine pw_slen hX ⟨rfl, rfl, rfl⟩ dL_cell_2 (q := 3) rfl ?_
  refine pw_icmpN_ge hX (by omega) (by omega) (tgt := 12) dL_cell_3 (q := 6) rfl (by decide) (fun h_3 => ?_) (fun h_3 => ?_)
  · refine pw_ldc hX cn_L_7 dL_cell_12 (q := 14) rfl ?_
    refine pw_iload_n hX rfl dL_cell_14 (q := 15) rfl ?_
    refine pw_bipush hX (k := 37) (by decide) dL_cell_15 (q := 17) rfl ?_
    refine pw_iaddN hX dL_cell_17 (q := 18) rfl ?_
    refine pw_imul hX dL_cell_18 (q := 19) rfl ?_
    exact fin _
  · refine pw_aload_n hX rfl dL_cell_6 (q := 7) rfl ?_
    refine pw_iload_n hX rfl dL_cell_7 (q := 8) rfl ?_
    refine pw_sld hX ⟨rfl, rfl, rfl⟩ (vp_in_nI h_3 (by omega)) dL_cell_8 (q := 9) rfl ?_
    refine pw_goto hX (tgt := 19) dL_cell_9 (by decide) ?_
    exact fin _
