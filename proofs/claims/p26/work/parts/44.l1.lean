/-! THE LAW: rank, holds -/
abbrev rm_L_rank : Room := { frames := 3, cells := 0, slots := 0, locals := 69 }
set_option maxHeartbeats 800000 in
set_option maxRecDepth 20000 in
theorem c_L_rank {l : Launch} {g : Geo} {w : WD} {v t : Nat} (hV : bV (w.1 0)) (hv : v < w.1 0 0 0) (ht : t < 12) : CtI l g yL_rank cL_rank 3 (some .int) rm_L_rank [.ref (g_ad g 10 0), .int (nI v), .int (nI t)] (w) (nI (w.1 0 5 (v * 12 + t))) (w) := by
  refine ct_of mi_L_rank.2.2.2.2 ⟨rfl, rfl⟩ (List.forall_mem_cons.mpr ⟨rfl, List.forall_mem_cons.mpr ⟨rfl, List.forall_mem_cons.mpr ⟨rfl, fun _ h => absurd h List.not_mem_nil⟩⟩⟩) (Nat.le_of_ble_eq_true rfl) (fun P hX => ?_)
  replace hX : Gd l g RL cL_rank rm_L_rank 3 (some .int) _ _ P := hX
  show P (w) 0 [some (.ref (g_ad g 10 0)), some (.int (nI v)), some (.int (nI t))] []
  have hn := hV.2.2.2.1
  by_cases hz : w.1 0 5 (v * 12 + t) = 0
  · skip
    refine pw_aload_n hX rfl dL_rank_0 (q := 1) rfl ?_
    refine pw_iload_n hX rfl dL_rank_1 (q := 2) rfl ?_
    refine pw_iload_n hX rfl dL_rank_2 (q := 3) rfl ?_
    refine pw_iconst hX (k := 0) rfl (by decide) dL_rank_3 (q := 4) rfl ?_
    refine pw_cvI3 hX dL_rank_4 (q := 7) rfl mi_X3_entryOf ml_L_9 rcR ⟨rfl, rfl, by decide, by decide⟩ rfl (Nat.le_of_ble_eq_true rfl) (c_X3_entryOf hV) ?_
    rw [qEO_z hn hv ht (by decide) hz]
    refine pw_if_ge hX (tgt := 14) dL_rank_7 (q := 10) rfl (by decide) (fun h => False.elim (by exact absurd h (by decide))) (fun h_7 => ?_)
    refine pw_iconst hX (k := 0) rfl (by decide) dL_rank_10 (q := 11) rfl ?_
    refine pw_goto hX (tgt := 32) dL_rank_11 (by decide) ?_
    refine pw_ireturn hX dL_rank_32 ⟨_, rfl, rfl⟩ ⟨congrArg (fun z => some (Value.int z)) ?_, ?_⟩
    · first | (rw [hz]) | exact congrArg nI (show 8 * (w.1 0 5 (v * 12 + t) / 8) + w.1 0 5 (v * 12 + t) % 8 = w.1 0 5 (v * 12 + t) by omega)
    · rfl
  · skip
    refine pw_aload_n hX rfl dL_rank_0 (q := 1) rfl ?_
    refine pw_iload_n hX rfl dL_rank_1 (q := 2) rfl ?_
    refine pw_iload_n hX rfl dL_rank_2 (q := 3) rfl ?_
    refine pw_iconst hX (k := 0) rfl (by decide) dL_rank_3 (q := 4) rfl ?_
    refine pw_cvI3 hX dL_rank_4 (q := 7) rfl mi_X3_entryOf ml_L_9 rcR ⟨rfl, rfl, by decide, by decide⟩ rfl (Nat.le_of_ble_eq_true rfl) (c_X3_entryOf hV) ?_
    rw [qEO_0 hn hv ht hz]
    refine pw_if_ge hX (tgt := 14) dL_rank_7 (q := 10) rfl (by decide) (fun h_7 => ?_) (fun h => False.elim (by revert h; cases kTmb (w.1 0) (v * 12 + t) <;> decide))
    refine pw_bipush hX (k := 8) (by decide) dL_rank_14 (q := 16) rfl ?_
    refine pw_aload_n hX rfl dL_rank_16 (q := 17) rfl ?_
    refine pw_iload_n hX rfl dL_rank_17 (q := 18) rfl ?_
    refine pw_iload_n hX rfl dL_rank_18 (q := 19) rfl ?_
    refine pw_iconst hX (k := 1) rfl (by decide) dL_rank_19 (q := 20) rfl ?_
    refine pw_cvI3 hX dL_rank_20 (q := 23) rfl mi_X3_entryOf ml_L_9 rcR ⟨rfl, rfl, by decide, by decide⟩ rfl (Nat.le_of_ble_eq_true rfl) (c_X3_entryOf hV) ?_
    rw [qEO_1 hn hv ht hz]
    refine pw_imulN hX dL_rank_23 (q := 24) rfl ?_
    refine pw_aload_n hX rfl dL_rank_24 (q := 25) rfl ?_
    refine pw_iload_n hX rfl dL_rank_25 (q := 26) rfl ?_
    refine pw_iload_n hX rfl dL_rank_26 (q := 27) rfl ?_
    refine pw_iconst hX (k := 2) rfl (by decide) dL_rank_27 (q := 28) rfl ?_
    refine pw_cvI3 hX dL_rank_28 (q := 31) rfl mi_X3_entryOf ml_L_9 rcR ⟨rfl, rfl, by decide, by decide⟩ rfl (Nat.le_of_ble_eq_true rfl) (c_X3_entryOf hV) ?_
    rw [qEO_2 hn hv ht hz]
    refine pw_iaddN hX dL_rank_31 (q := 32) rfl ?_
    refine pw_ireturn hX dL_rank_32 ⟨_, rfl, rfl⟩ ⟨congrArg (fun z => some (Value.int z)) ?_, ?_⟩
    · first | (rw [hz]) | exact congrArg nI (show 8 * (w.1 0 5 (v * 12 + t) / 8) + w.1 0 5 (v * 12 + t) % 8 = w.1 0 5 (v * 12 + t) by omega)
    · rfl
