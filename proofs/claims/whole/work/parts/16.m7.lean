abbrev rm_X4_entries : Room := { frames := 3, cells := 0, slots := 0, locals := 66 }
set_option maxHeartbeats 800000 in
set_option maxRecDepth 20000 in
theorem c_X4_entries {l : Launch} {g : Geo} {w : WD} {V : Nat → Nat → Nat} {S : Nat → Nat} {a : Nat} (ha : a < 2 ^ 31) (hB : bS S) : CtI l g yX4_entries cX4_entries 5 (some .int) rm_X4_entries [.ref (g_ad g 9 0), .int (nI a)] (mW w V S) (nI (mEnt S a)) (mW w V S) := by
  refine ct_of mi_X4_entries.2.2.2.2.2 ⟨rfl, rfl⟩ (List.forall_mem_cons.mpr ⟨rfl, List.forall_mem_cons.mpr ⟨rfl, fun _ h => absurd h List.not_mem_nil⟩⟩) (Nat.le_of_ble_eq_true rfl) (fun P hX => ?_)
  replace hX : Gd l g RX4 cX4_entries rm_X4_entries 5 (some .int) _ _ P := hX
  show P (mW w V S) 0 [some (.ref (g_ad g 9 0)), some (.int (nI a)), none, none, none] []
  have h7 := hB.2.2.1
  refine pw_iconst hX (k := 0) rfl (by decide) dX4_entries_0 (q := 1) rfl ?_
  refine pw_istore_n hX (by decide) dX4_entries_1 (q := 2) rfl ?_
  refine pw_iconst hX (k := 0) rfl (by decide) dX4_entries_2 (q := 3) rfl ?_
  refine pw_istore_n hX (by decide) dX4_entries_3 (q := 4) rfl ?_
  suffices L : ∀ k, k ≤ 84 → P (mW w V S) 4 [some (.ref (g_ad g 9 0)), some (.int (nI a)), some (.int (nI (cnt (mEp S a) k))), some (.int (nI k)), none] [] by exact L 0 (Nat.zero_le _)
  refine loopUp (fun k hk ih => ?_)
  refine pw_iload_n hX rfl dX4_entries_4 (q := 5) rfl ?_
  refine pw_bipush hX (k := 84) (by decide) dX4_entries_5 (q := 7) rfl ?_
  refine pw_icmpN_ge hX (by first | omega | exact bS0 hB | exact bSw hB (by omega) (by omega) (by omega) | exact bSe hB (by omega) (by omega) | exact bS1 hB | exact bS2 hB) (by first | omega | exact bS0 hB | exact bSw hB (by omega) (by omega) (by omega) | exact bSe hB (by omega) (by omega) | exact bS1 hB | exact bS2 hB) (tgt := 77) dX4_entries_7 (q := 10) rfl (by decide) (fun h_7 => ?_) (fun h_7 => ?_)
  · refine pw_iload_n hX rfl dX4_entries_77 (q := 78) rfl ?_
    refine pw_ireturn hX dX4_entries_78 ⟨_, rfl, rfl⟩ ⟨congrArg (fun z => some (Value.int z)) ?_, ?_⟩
    · rw [show k = 84 by omega]; rfl
    · rfl
  · refine pw_iload_n hX rfl dX4_entries_10 (q := 11) rfl ?_
    refine pw_bipush hX (k := 12) (by decide) dX4_entries_11 (q := 13) rfl ?_
    refine pw_idivN hX (by first | omega | exact bS0 hB | exact bSw hB (by omega) (by omega) (by omega) | exact bSe hB (by omega) (by omega) | exact bS1 hB | exact bS2 hB) (by decide) (by decide) dX4_entries_13 (q := 14) rfl ?_
    refine pw_istore hX (by decide) dX4_entries_14 (q := 16) rfl ?_
    refine pw_iload_n hX rfl dX4_entries_16 (q := 17) rfl ?_
    refine pw_iload hX rfl dX4_entries_17 (q := 19) rfl ?_
    refine pw_aload_n hX rfl dX4_entries_19 (q := 20) rfl ?_
    refine pw_getMS hX 0 (by decide) fl_X4_7 rfl dX4_entries_20 (q := 23) rfl ?_
    refine pw_iconst hX (k := 0) rfl (by decide) dX4_entries_23 (q := 24) rfl ?_
    refine pw_ialdS hX (by omega) dX4_entries_24 (q := 25) rfl ?_
    refine pw_icmpN_ge hX (by first | omega | exact bS0 hB | exact bSw hB (by omega) (by omega) (by omega) | exact bSe hB (by omega) (by omega) | exact bS1 hB | exact bS2 hB) (by first | omega | exact bS0 hB | exact bSw hB (by omega) (by omega) (by omega) | exact bSe hB (by omega) (by omega) | exact bS1 hB | exact bS2 hB) (tgt := 68) dX4_entries_25 (q := 28) rfl (by decide) (fun h_25 => ?_) (fun h_25 => ?_)
    · refine pw_iconst hX (k := 0) rfl (by decide) dX4_entries_68 (q := 69) rfl ?_
      refine pw_iaddN hX dX4_entries_69 (q := 70) rfl ?_
      refine pw_istore_n hX (by decide) dX4_entries_70 (q := 71) rfl ?_
      refine pw_iinc hX rfl (by decide) (inc1 _) dX4_entries_71 (q := 74) rfl ?_
      refine pw_goto hX (tgt := 4) dX4_entries_74 (by decide) ?_
      refine pw_fg hX (lv' := [some (.ref (g_ad g 9 0)), some (.int (nI a)), some (.int (nI (cnt (mEp S a) k + 0))), some (.int (nI (k + 1))), none]) (by repeat first | exact lle_nil | refine lle_cons ?_ | refine lle_none ?_) (pw_eq rfl (by rw [show cnt (mEp S a) (k + 1) = cnt (mEp S a) k + 0 by rw [cnt_s, if_neg (by rw [mEp, decide_eq_false (by omega), Bool.false_and]; decide)]]) rfl (ih (by omega)))
    · refine pw_iload_n hX rfl dX4_entries_28 (q := 29) rfl ?_
      refine pw_iconst hX (k := 3) rfl (by decide) dX4_entries_29 (q := 30) rfl ?_
      refine pw_icmpN_ne hX (by first | omega | exact bS0 hB | exact bSw hB (by omega) (by omega) (by omega) | exact bSe hB (by omega) (by omega) | exact bS1 hB | exact bS2 hB) (by first | omega | exact bS0 hB | exact bSw hB (by omega) (by omega) (by omega) | exact bSe hB (by omega) (by omega) | exact bS1 hB | exact bS2 hB) (tgt := 49) dX4_entries_30 (q := 33) rfl (by decide) (fun h_30 => ?_) (fun h_30 => ?_)
      · refine pw_aload_n hX rfl dX4_entries_49 (q := 50) rfl ?_
        refine pw_iload hX rfl dX4_entries_50 (q := 52) rfl ?_
        refine pw_iload_n hX rfl dX4_entries_52 (q := 53) rfl ?_
        refine pw_bipush hX (k := 12) (by decide) dX4_entries_53 (q := 55) rfl ?_
        refine pw_iremN hX (by first | omega | exact bS0 hB | exact bSw hB (by omega) (by omega) (by omega) | exact bSe hB (by omega) (by omega) | exact bS1 hB | exact bS2 hB) (by decide) (by decide) dX4_entries_55 (q := 56) rfl ?_
        refine pw_iconst hX (k := 0) rfl (by decide) dX4_entries_56 (q := 57) rfl ?_
        refine pw_cvI3 hX dX4_entries_57 (q := 60) rfl mi_X4_en ml_X4_73 rcM ⟨rfl, rfl, by decide, by decide⟩ rfl (Nat.le_of_ble_eq_true rfl) (c_X4_en (by first | assumption | omega) (by first | assumption | omega) (by first | assumption | omega)) ?_
        refine pw_iload_n hX rfl dX4_entries_60 (q := 61) rfl ?_
        refine pw_icmpN_ne hX (by first | omega | exact bS0 hB | exact bSw hB (by omega) (by omega) (by omega) | exact bSe hB (by omega) (by omega) | exact bS1 hB | exact bS2 hB) (by first | omega | exact bS0 hB | exact bSw hB (by omega) (by omega) (by omega) | exact bSe hB (by omega) (by omega) | exact bS1 hB | exact bS2 hB) (tgt := 68) dX4_entries_61 (q := 64) rfl (by decide) (fun h_61 => ?_) (fun h_61 => ?_)
        · refine pw_iconst hX (k := 0) rfl (by decide) dX4_entries_68 (q := 69) rfl ?_
          refine pw_iaddN hX dX4_entries_69 (q := 70) rfl ?_
          refine pw_istore_n hX (by decide) dX4_entries_70 (q := 71) rfl ?_
          refine pw_iinc hX rfl (by decide) (inc1 _) dX4_entries_71 (q := 74) rfl ?_
          refine pw_goto hX (tgt := 4) dX4_entries_74 (by decide) ?_
          refine pw_fg hX (lv' := [some (.ref (g_ad g 9 0)), some (.int (nI a)), some (.int (nI (cnt (mEp S a) k + 0))), some (.int (nI (k + 1))), none]) (by repeat first | exact lle_nil | refine lle_cons ?_ | refine lle_none ?_) (pw_eq rfl (by rw [show cnt (mEp S a) (k + 1) = cnt (mEp S a) k + 0 by rw [cnt_s, if_neg (by simp [mEp]; intro _; rw [if_neg h_30]; simpa using h_61)]]) rfl (ih (by omega)))
        · refine pw_iconst hX (k := 1) rfl (by decide) dX4_entries_64 (q := 65) rfl ?_
          refine pw_goto hX (tgt := 69) dX4_entries_65 (by decide) ?_
          refine pw_iaddN hX dX4_entries_69 (q := 70) rfl ?_
          refine pw_istore_n hX (by decide) dX4_entries_70 (q := 71) rfl ?_
          refine pw_iinc hX rfl (by decide) (inc1 _) dX4_entries_71 (q := 74) rfl ?_
          refine pw_goto hX (tgt := 4) dX4_entries_74 (by decide) ?_
          refine pw_fg hX (lv' := [some (.ref (g_ad g 9 0)), some (.int (nI a)), some (.int (nI (cnt (mEp S a) k + 1))), some (.int (nI (k + 1))), none]) (by repeat first | exact lle_nil | refine lle_cons ?_ | refine lle_none ?_) (pw_eq rfl (by rw [show cnt (mEp S a) (k + 1) = cnt (mEp S a) k + 1 by rw [cnt_s, if_pos (by simp only [mEp, if_neg h_30, decide_eq_true h_25, decide_eq_true h_61, Bool.and_true])]]) rfl (ih (by omega)))
      · refine pw_aload_n hX rfl dX4_entries_33 (q := 34) rfl ?_
        refine pw_iload hX rfl dX4_entries_34 (q := 36) rfl ?_
        refine pw_iload_n hX rfl dX4_entries_36 (q := 37) rfl ?_
        refine pw_bipush hX (k := 12) (by decide) dX4_entries_37 (q := 39) rfl ?_
        refine pw_iremN hX (by first | omega | exact bS0 hB | exact bSw hB (by omega) (by omega) (by omega) | exact bSe hB (by omega) (by omega) | exact bS1 hB | exact bS2 hB) (by decide) (by decide) dX4_entries_39 (q := 40) rfl ?_
        refine pw_cvI2 hX dX4_entries_40 (q := 43) rfl mi_X4_isDead ml_X4_120 rcM ⟨rfl, rfl, by decide, by decide⟩ rfl (Nat.le_of_ble_eq_true rfl) (c_X4_isDead (by first | assumption | omega) (by first | assumption | omega) (by first | assumption | omega)) ?_
        refine pw_ifB_eq hX (tgt := 68) dX4_entries_43 (q := 46) rfl (by decide) (fun h_43 => ?_) (fun h_43 => ?_)
        · refine pw_iconst hX (k := 0) rfl (by decide) dX4_entries_68 (q := 69) rfl ?_
          refine pw_iaddN hX dX4_entries_69 (q := 70) rfl ?_
          refine pw_istore_n hX (by decide) dX4_entries_70 (q := 71) rfl ?_
          refine pw_iinc hX rfl (by decide) (inc1 _) dX4_entries_71 (q := 74) rfl ?_
          refine pw_goto hX (tgt := 4) dX4_entries_74 (by decide) ?_
          refine pw_fg hX (lv' := [some (.ref (g_ad g 9 0)), some (.int (nI a)), some (.int (nI (cnt (mEp S a) k + 0))), some (.int (nI (k + 1))), none]) (by repeat first | exact lle_nil | refine lle_cons ?_ | refine lle_none ?_) (pw_eq rfl (by rw [show cnt (mEp S a) (k + 1) = cnt (mEp S a) k + 0 by rw [cnt_s, if_neg (by simp [mEp, h_30, h_43])]]) rfl (ih (by omega)))
        · refine pw_goto hX (tgt := 64) dX4_entries_46 (by decide) ?_
          refine pw_iconst hX (k := 1) rfl (by decide) dX4_entries_64 (q := 65) rfl ?_
          refine pw_goto hX (tgt := 69) dX4_entries_65 (by decide) ?_
          refine pw_iaddN hX dX4_entries_69 (q := 70) rfl ?_
          refine pw_istore_n hX (by decide) dX4_entries_70 (q := 71) rfl ?_
          refine pw_iinc hX rfl (by decide) (inc1 _) dX4_entries_71 (q := 74) rfl ?_
          refine pw_goto hX (tgt := 4) dX4_entries_74 (by decide) ?_
          refine pw_fg hX (lv' := [some (.ref (g_ad g 9 0)), some (.int (nI a)), some (.int (nI (cnt (mEp S a) k + 1))), some (.int (nI (k + 1))), none]) (by repeat first | exact lle_nil | refine lle_cons ?_ | refine lle_none ?_) (pw_eq rfl (by rw [show cnt (mEp S a) (k + 1) = cnt (mEp S a) k + 1 by rw [cnt_s, if_pos (by simp only [mEp, if_pos h_30, decide_eq_true h_25, h_43, Bool.and_true])]]) rfl (ih (by omega)))
abbrev rm_X4_count : Room := { frames := 4, cells := 0, slots := 0, locals := 90 }
set_option maxHeartbeats 800000 in
set_option maxRecDepth 20000 in
theorem c_X4_count {l : Launch} {g : Geo} {w : WD} {V : Nat → Nat → Nat} {S : Nat → Nat} {v : Int32} (hB : bS S) : CtI l g yX4_count cX4_count 2 (some .int) rm_X4_count [.ref (g_ad g 9 0), .int v] (mW w V S) (mCount V S v) (mW w V S) := by
  refine ct_of mi_X4_count.2.2.2.2.2 ⟨rfl, rfl⟩ (List.forall_mem_cons.mpr ⟨rfl, List.forall_mem_cons.mpr ⟨rfl, fun _ h => absurd h List.not_mem_nil⟩⟩) (Nat.le_of_ble_eq_true rfl) (fun P hX => ?_)
  replace hX : Gd l g RX4 cX4_count rm_X4_count 2 (some .int) _ _ P := hX
  show P (mW w V S) 0 [some (.ref (g_ad g 9 0)), some (.int v)] []
  have h7 := hB.2.2.1
  refine pw_iload_n hX rfl dX4_count_0 (q := 1) rfl ?_
  by_cases hv : inN 0 11 v = true
  · obtain ⟨k, -, hk, rfl⟩ := inN_of (by decide) hv
    have hxk : ix (nI k) = k := ix_nI (by omega)
    rcases (show k = 0 ∨ k = 1 ∨ k = 2 ∨ k = 3 ∨ k = 4 ∨ k = 5 ∨ k = 6 ∨ k = 7 ∨ k = 8 ∨ k = 9 ∨ k = 10 ∨ k = 11 by omega) with rfl | rfl | rfl | rfl | rfl | rfl | rfl | rfl | rfl | rfl | rfl | rfl
    · refine pw_tabIn hX (tgt := 64) (off := 63) dX4_count_1 (by decide) (by decide) (by decide) (by decide) ?_
      refine pw_aload_n hX rfl dX4_count_64 (q := 65) rfl ?_
      refine pw_getMS hX 0 (by decide) fl_X4_7 rfl dX4_count_65 (q := 68) rfl ?_
      refine pw_iconst hX (k := 0) rfl (by decide) dX4_count_68 (q := 69) rfl ?_
      refine pw_ialdS hX (by omega) dX4_count_69 (q := 70) rfl ?_
      refine pw_ireturn hX dX4_count_70 ⟨_, rfl, rfl⟩ ⟨congrArg (fun z => some (Value.int z)) ?_, ?_⟩
      · rw [mCount, if_pos hv, hxk]; rfl
      · rfl
    · refine pw_tabIn hX (tgt := 71) (off := 70) dX4_count_1 (by decide) (by decide) (by decide) (by decide) ?_
      refine pw_aload_n hX rfl dX4_count_71 (q := 72) rfl ?_
      refine pw_iload_n hX rfl dX4_count_72 (q := 73) rfl ?_
      refine pw_iconst hX (k := 1) rfl (by decide) dX4_count_73 (q := 74) rfl ?_
      refine pw_isubN hX (by first | assumption | omega) dX4_count_74 (q := 75) rfl ?_
      refine pw_cvI1 hX dX4_count_75 (q := 78) rfl mi_X4_many ml_X4_61 rcM ⟨rfl, rfl, by decide, by decide⟩ rfl (Nat.le_of_ble_eq_true rfl) (c_X4_many (by decide) hB) ?_
      refine pw_ireturn hX dX4_count_78 ⟨_, rfl, rfl⟩ ⟨congrArg (fun z => some (Value.int z)) ?_, ?_⟩
      · rw [mCount, if_pos hv, hxk]; rfl
      · rfl
    · refine pw_tabIn hX (tgt := 71) (off := 70) dX4_count_1 (by decide) (by decide) (by decide) (by decide) ?_
      refine pw_aload_n hX rfl dX4_count_71 (q := 72) rfl ?_
      refine pw_iload_n hX rfl dX4_count_72 (q := 73) rfl ?_
      refine pw_iconst hX (k := 1) rfl (by decide) dX4_count_73 (q := 74) rfl ?_
      refine pw_isubN hX (by first | assumption | omega) dX4_count_74 (q := 75) rfl ?_
      refine pw_cvI1 hX dX4_count_75 (q := 78) rfl mi_X4_many ml_X4_61 rcM ⟨rfl, rfl, by decide, by decide⟩ rfl (Nat.le_of_ble_eq_true rfl) (c_X4_many (by decide) hB) ?_
      refine pw_ireturn hX dX4_count_78 ⟨_, rfl, rfl⟩ ⟨congrArg (fun z => some (Value.int z)) ?_, ?_⟩
      · rw [mCount, if_pos hv, hxk]; rfl
      · rfl
    · refine pw_tabIn hX (tgt := 79) (off := 78) dX4_count_1 (by decide) (by decide) (by decide) (by decide) ?_
      refine pw_aload_n hX rfl dX4_count_79 (q := 80) rfl ?_
      refine pw_getMS hX 0 (by decide) fl_X4_7 rfl dX4_count_80 (q := 83) rfl ?_
      refine pw_iconst hX (k := 1) rfl (by decide) dX4_count_83 (q := 84) rfl ?_
      refine pw_ialdS hX (by omega) dX4_count_84 (q := 85) rfl ?_
      refine pw_ireturn hX dX4_count_85 ⟨_, rfl, rfl⟩ ⟨congrArg (fun z => some (Value.int z)) ?_, ?_⟩
      · rw [mCount, if_pos hv, hxk]; rfl
      · rfl
    · refine pw_tabIn hX (tgt := 86) (off := 85) dX4_count_1 (by decide) (by decide) (by decide) (by decide) ?_
      refine pw_aload_n hX rfl dX4_count_86 (q := 87) rfl ?_
      refine pw_getMS hX 0 (by decide) fl_X4_7 rfl dX4_count_87 (q := 90) rfl ?_
      refine pw_iconst hX (k := 2) rfl (by decide) dX4_count_90 (q := 91) rfl ?_
      refine pw_ialdS hX (by omega) dX4_count_91 (q := 92) rfl ?_
      refine pw_ireturn hX dX4_count_92 ⟨_, rfl, rfl⟩ ⟨congrArg (fun z => some (Value.int z)) ?_, ?_⟩
      · rw [mCount, if_pos hv, hxk]; rfl
      · rfl
    · refine pw_tabIn hX (tgt := 93) (off := 92) dX4_count_1 (by decide) (by decide) (by decide) (by decide) ?_
      refine pw_aload_n hX rfl dX4_count_93 (q := 94) rfl ?_
      refine pw_iload_n hX rfl dX4_count_94 (q := 95) rfl ?_
      refine pw_iconst hX (k := 4) rfl (by decide) dX4_count_95 (q := 96) rfl ?_
      refine pw_isubN hX (by first | assumption | omega) dX4_count_96 (q := 97) rfl ?_
      refine pw_cvI1 hX dX4_count_97 (q := 100) rfl mi_X4_entries ml_X4_151 rcM ⟨rfl, rfl, by decide, by decide⟩ rfl (Nat.le_of_ble_eq_true rfl) (c_X4_entries (by decide) hB) ?_
      refine pw_ireturn hX dX4_count_100 ⟨_, rfl, rfl⟩ ⟨congrArg (fun z => some (Value.int z)) ?_, ?_⟩
      · rw [mCount, if_pos hv, hxk]; rfl
      · rfl
    · refine pw_tabIn hX (tgt := 93) (off := 92) dX4_count_1 (by decide) (by decide) (by decide) (by decide) ?_
      refine pw_aload_n hX rfl dX4_count_93 (q := 94) rfl ?_
      refine pw_iload_n hX rfl dX4_count_94 (q := 95) rfl ?_
      refine pw_iconst hX (k := 4) rfl (by decide) dX4_count_95 (q := 96) rfl ?_
      refine pw_isubN hX (by first | assumption | omega) dX4_count_96 (q := 97) rfl ?_
      refine pw_cvI1 hX dX4_count_97 (q := 100) rfl mi_X4_entries ml_X4_151 rcM ⟨rfl, rfl, by decide, by decide⟩ rfl (Nat.le_of_ble_eq_true rfl) (c_X4_entries (by decide) hB) ?_
      refine pw_ireturn hX dX4_count_100 ⟨_, rfl, rfl⟩ ⟨congrArg (fun z => some (Value.int z)) ?_, ?_⟩
      · rw [mCount, if_pos hv, hxk]; rfl
      · rfl
    · refine pw_tabIn hX (tgt := 93) (off := 92) dX4_count_1 (by decide) (by decide) (by decide) (by decide) ?_
      refine pw_aload_n hX rfl dX4_count_93 (q := 94) rfl ?_
      refine pw_iload_n hX rfl dX4_count_94 (q := 95) rfl ?_
      refine pw_iconst hX (k := 4) rfl (by decide) dX4_count_95 (q := 96) rfl ?_
      refine pw_isubN hX (by first | assumption | omega) dX4_count_96 (q := 97) rfl ?_
      refine pw_cvI1 hX dX4_count_97 (q := 100) rfl mi_X4_entries ml_X4_151 rcM ⟨rfl, rfl, by decide, by decide⟩ rfl (Nat.le_of_ble_eq_true rfl) (c_X4_entries (by decide) hB) ?_
      refine pw_ireturn hX dX4_count_100 ⟨_, rfl, rfl⟩ ⟨congrArg (fun z => some (Value.int z)) ?_, ?_⟩
      · rw [mCount, if_pos hv, hxk]; rfl
      · rfl
    · refine pw_tabIn hX (tgt := 101) (off := 100) dX4_count_1 (by decide) (by decide) (by decide) (by decide) ?_
      refine pw_aload_n hX rfl dX4_count_101 (q := 102) rfl ?_
      refine pw_getMS hX 0 (by decide) fl_X4_7 rfl dX4_count_102 (q := 105) rfl ?_
      refine pw_iconst hX (k := 3) rfl (by decide) dX4_count_105 (q := 106) rfl ?_
      refine pw_ialdS hX (by omega) dX4_count_106 (q := 107) rfl ?_
      refine pw_ireturn hX dX4_count_107 ⟨_, rfl, rfl⟩ ⟨congrArg (fun z => some (Value.int z)) ?_, ?_⟩
      · rw [mCount, if_pos hv, hxk]; rfl
      · rfl
    · refine pw_tabIn hX (tgt := 108) (off := 107) dX4_count_1 (by decide) (by decide) (by decide) (by decide) ?_
      refine pw_aload_n hX rfl dX4_count_108 (q := 109) rfl ?_
      refine pw_getMS hX 0 (by decide) fl_X4_7 rfl dX4_count_109 (q := 112) rfl ?_
      refine pw_iconst hX (k := 4) rfl (by decide) dX4_count_112 (q := 113) rfl ?_
      refine pw_ialdS hX (by omega) dX4_count_113 (q := 114) rfl ?_
      refine pw_ireturn hX dX4_count_114 ⟨_, rfl, rfl⟩ ⟨congrArg (fun z => some (Value.int z)) ?_, ?_⟩
      · rw [mCount, if_pos hv, hxk]; rfl
      · rfl
    · refine pw_tabIn hX (tgt := 115) (off := 114) dX4_count_1 (by decide) (by decide) (by decide) (by decide) ?_
      refine pw_aload_n hX rfl dX4_count_115 (q := 116) rfl ?_
      refine pw_getMS hX 4 (by decide) fl_X4_41 rfl dX4_count_116 (q := 119) rfl ?_
      refine pw_ireturn hX dX4_count_119 ⟨_, rfl, rfl⟩ ⟨congrArg (fun z => some (Value.int z)) ?_, ?_⟩
      · rw [mCount, if_pos hv, hxk]; rfl
      · rfl
    · refine pw_tabIn hX (tgt := 120) (off := 119) dX4_count_1 (by decide) (by decide) (by decide) (by decide) ?_
      refine pw_aload_n hX rfl dX4_count_120 (q := 121) rfl ?_
      refine pw_getMS hX 6 (by decide) fl_X4_154 rfl dX4_count_121 (q := 124) rfl ?_
      refine pw_ireturn hX dX4_count_124 ⟨_, rfl, rfl⟩ ⟨congrArg (fun z => some (Value.int z)) ?_, ?_⟩
      · rw [mCount, if_pos hv, hxk]; rfl
      · rfl
  · skip
    · refine pw_tabOut hX (tgt := 125) dX4_count_1 (by unfold inN at hv; simp only [decide_eq_true_eq] at hv; omega) (by decide) ?_
      refine pw_ldc hX cn_X4_40 dX4_count_125 (q := 127) rfl ?_
      refine pw_ireturn hX dX4_count_127 ⟨_, rfl, rfl⟩ ⟨congrArg (fun z => some (Value.int z)) ?_, ?_⟩
      · rw [mCount, if_neg hv]
      · rfl
abbrev rm_X4_undo : Room := { frames := 0, cells := 0, slots := 0, locals := 0 }
set_option maxHeartbeats 800000 in
set_option maxRecDepth 20000 in
theorem c_X4_undo {l : Launch} {g : Geo} {w : WD} {V : Nat → Nat → Nat} {S : Nat → Nat} (h4 : V 0 4 ≤ 4) : CtI l g yX4_undo cX4_undo 2 (some .int) rm_X4_undo [.ref (g_ad g 9 0)] (mW w V S) (if V 0 4 = 0 then -1000002 else nI (V 0 4 - 1)) (if V 0 4 = 0 then mW w V S else mW w (vU V 0 4 (V 0 4 - 1)) (mUndoS V)) := by
  refine ct_of mi_X4_undo.2.2.2.2.2 ⟨rfl, rfl⟩ (List.forall_mem_cons.mpr ⟨rfl, fun _ h => absurd h List.not_mem_nil⟩) (Nat.le_of_ble_eq_true rfl) (fun P hX => ?_)
  replace hX : Gd l g RX4 cX4_undo rm_X4_undo 2 (some .int) _ _ P := hX
  show P (mW w V S) 0 [some (.ref (g_ad g 9 0)), none] []
  refine pw_aload_n hX rfl dX4_undo_0 (q := 1) rfl ?_
  refine pw_getMS hX 4 (by decide) fl_X4_41 rfl dX4_undo_1 (q := 4) rfl ?_
  refine pw_ifN_ne hX (by omega) (tgt := 10) dX4_undo_4 (q := 7) rfl (by decide) (fun h_4 => ?_) (fun h_4 => ?_)
  · refine pw_aload_n hX rfl dX4_undo_10 (q := 11) rfl ?_
    refine pw_dup hX rfl dX4_undo_11 (q := 12) rfl ?_
    refine pw_getMS hX 4 (by decide) fl_X4_41 rfl dX4_undo_12 (q := 15) rfl ?_
    refine pw_iconst hX (k := 1) rfl (by decide) dX4_undo_15 (q := 16) rfl ?_
    refine pw_isubN hX (by first | assumption | omega) dX4_undo_16 (q := 17) rfl ?_
    refine pw_putMS hX 4 (by decide) fl_X4_41 dX4_undo_17 (q := 20) rfl ?_
    refine pw_iconst hX (k := 0) rfl (by decide) dX4_undo_20 (q := 21) rfl ?_
    refine pw_istore_n hX (by decide) dX4_undo_21 (q := 22) rfl ?_
    suffices L : ∀ i, i ≤ 813 → P (mW w (vU V 0 4 (V 0 4 - 1)) (cp i (mUndoS V) S)) 22 [some (.ref (g_ad g 9 0)), some (.int (nI i))] [] by have h9 := L 0 (Nat.zero_le _); rw [cp_0] at h9; exact h9
    refine loopUp (fun i hi ih => ?_)
    refine pw_iload_n hX rfl dX4_undo_22 (q := 23) rfl ?_
    refine pw_sipush hX (k := 813) (by decide) dX4_undo_23 (q := 26) rfl ?_
    refine pw_icmpN_ge hX (by omega) (by omega) (tgt := 56) dX4_undo_26 (q := 29) rfl (by decide) (fun h_26 => ?_) (fun h_26 => ?_)
    · refine pw_weq hX (w' := mW w (vU V 0 4 (V 0 4 - 1)) (mUndoS V)) (weq_mW (fun j hj => by simp only [cp, if_pos (show j < i by omega)]) (fun _ _ => rfl) (fun _ _ _ _ _ => rfl)) ?_
      refine pw_aload_n hX rfl dX4_undo_56 (q := 57) rfl ?_
      refine pw_getMS hX 4 (by decide) fl_X4_41 rfl dX4_undo_57 (q := 60) rfl ?_
      refine pw_ireturn hX dX4_undo_60 ⟨_, rfl, rfl⟩ ⟨congrArg (fun z => some (Value.int z)) ?_, ?_⟩
      · rw [if_neg h_4]; show nI (upN (V 0) 4 (V 0 4 - 1) 4) = _; rw [upN_s]
      · rw [if_neg h_4]
    · refine pw_aload_n hX rfl dX4_undo_29 (q := 30) rfl ?_
      refine pw_getMS hX 0 (by decide) fl_X4_7 rfl dX4_undo_30 (q := 33) rfl ?_
      refine pw_iload_n hX rfl dX4_undo_33 (q := 34) rfl ?_
      refine pw_aload_n hX rfl dX4_undo_34 (q := 35) rfl ?_
      refine pw_getMS hX 1 (by decide) fl_X4_13 rfl dX4_undo_35 (q := 38) rfl ?_
      refine pw_sipush hX (k := 813) (by decide) dX4_undo_38 (q := 41) rfl ?_
      refine pw_aload_n hX rfl dX4_undo_41 (q := 42) rfl ?_
      refine pw_getMS hX 4 (by decide) fl_X4_41 rfl dX4_undo_42 (q := 45) rfl ?_
      refine pw_imulN hX dX4_undo_45 (q := 46) rfl ?_
      refine pw_iload_n hX rfl dX4_undo_46 (q := 47) rfl ?_
      refine pw_iaddN hX dX4_undo_47 (q := 48) rfl ?_
      refine pw_ialdMS hX 2 (by decide) (show _ < 3252 by (show 813 * upN (V 0) 4 (V 0 4 - 1) 4 + i < 3252; rw [upN_s]; omega)) dX4_undo_48 (q := 49) rfl ?_
      refine pw_iastS hX (by omega) dX4_undo_49 (q := 50) rfl ?_
      refine pw_iinc hX rfl (by decide) (inc1 _) dX4_undo_50 (q := 53) rfl ?_
      refine pw_goto hX (tgt := 22) dX4_undo_53 (by decide) ?_
      exact pw_eq (by rw [← cp_s]; refine mW_eS (congrArg (upN _ i) ?_); show V 2 (813 * upN (V 0) 4 (V 0 4 - 1) 4 + i) = _; rw [upN_s]; rfl) rfl rfl (ih (by omega))
  · refine pw_ldc hX cn_X4_60 dX4_undo_7 (q := 9) rfl ?_
    refine pw_ireturn hX dX4_undo_9 ⟨_, rfl, rfl⟩ ⟨congrArg (fun z => some (Value.int z)) ?_, ?_⟩
    · rw [if_pos h_4]
    · rw [if_pos h_4]
def mType (V : Nat → Nat → Nat) (v : Int32) : Int32 := if inN 32 126 v = true then (if V 0 6 = 60 then -1000003 else nI (V 0 6 + 1)) else -1000001
def mTypeV (V : Nat → Nat → Nat) (v : Int32) : Nat → Nat → Nat := if inN 32 126 v = true then (if V 0 6 = 60 then V else vU (vU V 5 (V 0 6) (ix v)) 0 6 (V 0 6 + 1)) else V
abbrev rm_X4_type : Room := { frames := 1, cells := 0, slots := 0, locals := 22 }
set_option maxHeartbeats 800000 in
set_option maxRecDepth 20000 in
theorem c_X4_type {l : Launch} {g : Geo} {w : WD} {V : Nat → Nat → Nat} {S : Nat → Nat} {v : Int32} (h6 : V 0 6 ≤ 60) : CtI l g yX4_type cX4_type 2 (some .int) rm_X4_type [.ref (g_ad g 9 0), .int v] (mW w V S) (mType V v) (mW w (mTypeV V v) S) := by
  refine ct_of mi_X4_type.2.2.2.2.2 ⟨rfl, rfl⟩ (List.forall_mem_cons.mpr ⟨rfl, List.forall_mem_cons.mpr ⟨rfl, fun _ h => absurd h List.not_mem_nil⟩⟩) (Nat.le_of_ble_eq_true rfl) (fun P hX => ?_)
  replace hX : Gd l g RX4 cX4_type rm_X4_type 2 (some .int) _ _ P := hX
  show P (mW w V S) 0 [some (.ref (g_ad g 9 0)), some (.int v)] []
  refine pw_iload_n hX rfl dX4_type_0 (q := 1) rfl ?_
  refine pw_bipush hX (k := 32) (by decide) dX4_type_1 (q := 3) rfl ?_
  refine pw_bipush hX (k := 126) (by decide) dX4_type_3 (q := 5) rfl ?_
  refine pw_csI3 hX dX4_type_5 (q := 8) rfl mi_X4_in ml_X4_33 ⟨rfl, rfl, by decide, by decide⟩ rfl (Nat.le_of_ble_eq_true rfl) (c_X4_inN (by decide) (by decide)) ?_
  refine pw_ifB_ne hX (tgt := 14) dX4_type_8 (q := 11) rfl (by decide) (fun h_8 => ?_) (fun h_8 => ?_)
  · obtain ⟨i, hi0, hi, rfl⟩ := inN_of (by decide) h_8
    have hx : ix (nI i) = i := ix_nI (by omega)
    refine pw_aload_n hX rfl dX4_type_14 (q := 15) rfl ?_
    refine pw_getMS hX 6 (by decide) fl_X4_154 rfl dX4_type_15 (q := 18) rfl ?_
    refine pw_bipush hX (k := 60) (by decide) dX4_type_18 (q := 20) rfl ?_
    refine pw_icmpN_ne hX (by omega) (by omega) (tgt := 26) dX4_type_20 (q := 23) rfl (by decide) (fun h_20 => ?_) (fun h_20 => ?_)
    · refine pw_aload_n hX rfl dX4_type_26 (q := 27) rfl ?_
      refine pw_getMS hX 5 (by decide) fl_X4_22 rfl dX4_type_27 (q := 30) rfl ?_
      refine pw_aload_n hX rfl dX4_type_30 (q := 31) rfl ?_
      refine pw_getMS hX 6 (by decide) fl_X4_154 rfl dX4_type_31 (q := 34) rfl ?_
      refine pw_iload_n hX rfl dX4_type_34 (q := 35) rfl ?_
      refine pw_i2c hX (v := nI i) (by rw [pk_char, pk_tn (by omega), Nat.mod_eq_of_lt (by omega)]) dX4_type_35 (q := 36) rfl ?_
      refine pw_castMS hX (by omega) (by omega) dX4_type_36 (q := 37) rfl ?_
      refine pw_aload_n hX rfl dX4_type_37 (q := 38) rfl ?_
      refine pw_dup hX rfl dX4_type_38 (q := 39) rfl ?_
      refine pw_getMS hX 6 (by decide) fl_X4_154 rfl dX4_type_39 (q := 42) rfl ?_
      refine pw_iconst hX (k := 1) rfl (by decide) dX4_type_42 (q := 43) rfl ?_
      refine pw_iaddN hX dX4_type_43 (q := 44) rfl ?_
      refine pw_putMS hX 6 (by decide) fl_X4_154 dX4_type_44 (q := 47) rfl ?_
      refine pw_aload_n hX rfl dX4_type_47 (q := 48) rfl ?_
      refine pw_getMS hX 6 (by decide) fl_X4_154 rfl dX4_type_48 (q := 51) rfl ?_
      refine pw_ireturn hX dX4_type_51 ⟨_, rfl, rfl⟩ ⟨congrArg (fun z => some (Value.int z)) ?_, ?_⟩
      · rw [mType, if_pos h_8, if_neg h_20]; show nI (upN (V 0) 6 (V 0 6 + 1) 6) = _; rw [upN_s]
      · rw [mTypeV, if_pos h_8, if_neg h_20, hx]; rfl
    · refine pw_ldc hX cn_X4_45 dX4_type_23 (q := 25) rfl ?_
      refine pw_ireturn hX dX4_type_25 ⟨_, rfl, rfl⟩ ⟨congrArg (fun z => some (Value.int z)) ?_, ?_⟩
      · rw [mType, if_pos h_8, if_pos h_20]
      · rw [mTypeV, if_pos h_8, if_pos h_20]
  · refine pw_ldc hX cn_X4_40 dX4_type_11 (q := 13) rfl ?_
    refine pw_ireturn hX dX4_type_13 ⟨_, rfl, rfl⟩ ⟨congrArg (fun z => some (Value.int z)) ?_, ?_⟩
    · rw [mType, if_neg (by simp [h_8])]
    · rw [mTypeV, if_neg (by simp [h_8])]
abbrev rm_X4_clearText : Room := { frames := 0, cells := 0, slots := 0, locals := 0 }
set_option maxHeartbeats 800000 in
set_option maxRecDepth 20000 in
theorem c_X4_clearText {l : Launch} {g : Geo} {w : WD} {V : Nat → Nat → Nat} {S : Nat → Nat}  : CtI l g yX4_clearText cX4_clearText 2 (some .int) rm_X4_clearText [.ref (g_ad g 9 0)] (mW w V S) (nI (V 0 6)) (mW w (vU V 0 6 0) S) := by
  refine ct_of mi_X4_clearText.2.2.2.2.2 ⟨rfl, rfl⟩ (List.forall_mem_cons.mpr ⟨rfl, fun _ h => absurd h List.not_mem_nil⟩) (Nat.le_of_ble_eq_true rfl) (fun P hX => ?_)
  replace hX : Gd l g RX4 cX4_clearText rm_X4_clearText 2 (some .int) _ _ P := hX
  show P (mW w V S) 0 [some (.ref (g_ad g 9 0)), none] []
  refine pw_aload_n hX rfl dX4_clearText_0 (q := 1) rfl ?_
  refine pw_getMS hX 6 (by decide) fl_X4_154 rfl dX4_clearText_1 (q := 4) rfl ?_
  refine pw_istore_n hX (by decide) dX4_clearText_4 (q := 5) rfl ?_
  refine pw_aload_n hX rfl dX4_clearText_5 (q := 6) rfl ?_
  refine pw_iconst hX (k := 0) rfl (by decide) dX4_clearText_6 (q := 7) rfl ?_
  refine pw_putMS hX 6 (by decide) fl_X4_154 dX4_clearText_7 (q := 10) rfl ?_
  refine pw_iload_n hX rfl dX4_clearText_10 (q := 11) rfl ?_
  refine pw_ireturn hX dX4_clearText_11 ⟨_, rfl, rfl⟩ ⟨congrArg (fun z => some (Value.int z)) ?_, ?_⟩
  · rfl
  · rfl
