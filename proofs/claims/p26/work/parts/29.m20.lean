def qOf (V : Nat → Nat → Nat) (v a : Int32) : Int32 := if hasN (V 0 0) v = true ∧ inN 0 5 a = true then (if ix a = 0 then nI (V 1 (ix v)) else if ix a = 1 then nI (V 2 (ix v)) else if ix a = 2 then nI (bits (fun t => kRum V (ix v * 12 + t)) 12) else if ix a = 3 then nI (bits (fun t => kTmb V (ix v * 12 + t)) 12) else if ix a = 4 then nI (V 4 (ix v)) else (if V 1 (ix v) = 1 then nI (V 0 1) - nI (V 3 (ix v)) else -1000004)) else -1000001
def qUnl (V : Nat → Nat → Nat) (v u : Int32) : Int32 := if hasN (V 0 0) v = true ∧ hasN (V 0 0) u = true then nI (bits (fun t => !(decide (V 5 (ix v * 12 + t) = V 5 (ix u * 12 + t)))) 12) else -1000001
def qDead (V : Nat → Nat → Nat) (v : Int32) : Int32 := if hasN (V 0 0) v = true then nI (bits (fun t => kDead V (ix v) t) 12) else -1000001
def qCnt (V : Nat → Nat → Nat) (k n : Nat) (a : Int32) : Int32 := if inN 0 11 a = true then (if ix a = 0 then nI (V 0 0) else if ix a = 1 then nI (kMany V 0) else if ix a = 2 then nI (kMany V 1) else if ix a = 3 then nI (V 0 1) else if ix a = 4 then nI (V 0 2) else if ix a = 5 then nI (sm (fun v => cnt (fun t => kRum V (v * 12 + t)) 12) (V 0 0)) else if ix a = 6 then nI (sm (fun v => cnt (fun t => kTmb V (v * 12 + t)) 12) (V 0 0)) else if ix a = 7 then nI (sm (fun v => cnt (fun t => kDead V v t) 12) (V 0 0)) else if ix a = 8 then nI (sm (V 4) (V 0 0)) else if ix a = 9 then nI (V 0 3) else if ix a = 10 then nI k else nI n) else -1000001
def qEO (V : Nat → Nat → Nat) (v t a : Int32) : Int32 :=
  if hasN (V 0 0) v = true ∧ hasN 12 t = true ∧ inN 0 7 a = true then
    (if V 5 (ix v * 12 + ix t) = 0 then -1000004
     else if ix a = 0 then bI (kTmb V (ix v * 12 + ix t))
     else if ix a = 1 then nI (V 5 (ix v * 12 + ix t) / 8)
     else if ix a = 2 then nI (V 5 (ix v * 12 + ix t) % 8)
     else if ix a = 3 then (if kTmb V (ix v * 12 + ix t) = true then -1000004 else nI (V 7 (ix v * 12 + ix t)))
     else if ix a = 4 then (if kTmb V (ix v * 12 + ix t) = true then -1000004 else nI (V 6 (ix v * 12 + ix t)))
     else if ix a = 5 then (if kTmb V (ix v * 12 + ix t) = true then nI (V 8 (ix v * 12 + ix t)) else -1000004)
     else if ix a = 6 then (if kTmb V (ix v * 12 + ix t) = true then nI (V 9 (ix v * 12 + ix t)) else -1000004)
     else (if kTmb V (ix v * 12 + ix t) = true then -1000004 else bI (kDead V (ix v) (ix t))))
  else -1000001
theorem inN_out {n : Nat} {v : Int32} (h : ¬ inN 0 n v = true) : v.toInt < 0 ∨ (n : Int) < v.toInt := by
  unfold inN at h
  simp only [decide_eq_true_eq] at h
  omega
abbrev rm_X3_unlike : Room := { frames := 2, cells := 0, slots := 0, locals := 45 }
set_option maxHeartbeats 800000 in
set_option maxRecDepth 20000 in
theorem c_X3_unlike {l : Launch} {g : Geo} {w : WD} {v u : Int32} (hV : bV (w.1 0)) : CtI l g yX3_unlike cX3_unlike 3 (some .int) rm_X3_unlike [.ref (g_ad g 10 0), .int v, .int u] (w) (qUnl (w.1 0) v u) (w) := by
  refine ct_of mi_X3_unlike.2.2.2.2.2 ⟨rfl, rfl⟩ (List.forall_mem_cons.mpr ⟨rfl, List.forall_mem_cons.mpr ⟨rfl, List.forall_mem_cons.mpr ⟨rfl, fun _ h => absurd h List.not_mem_nil⟩⟩⟩) (Nat.le_of_ble_eq_true rfl) (fun P hX => ?_)
  replace hX : Gd l g RX3 cX3_unlike rm_X3_unlike 3 (some .int) _ _ P := hX
  show P (w) 0 [some (.ref (g_ad g 10 0)), some (.int v), some (.int u)] []
  refine pw_aload_n hX rfl dX3_unlike_0 (q := 1) rfl ?_
  refine pw_getR hX 0 (by decide) fl_X3_10 rfl dX3_unlike_1 (q := 4) rfl ?_
  refine pw_iload_n hX rfl dX3_unlike_4 (q := 5) rfl ?_
  refine pw_cvI1 hX dX3_unlike_5 (q := 8) rfl mi_X2_has ml_X3_57 (rcV (show 0 < 7 by decide)) ⟨rfl, rfl, by decide, by decide⟩ rfl (Nat.le_of_ble_eq_true rfl) (c_X2_has h07 hV).r ?_
  refine pw_ifB_eq hX (tgt := 22) dX3_unlike_8 (q := 11) rfl (by decide) (fun h_8 => ?_) (fun h_8 => ?_)
  · have hz : ¬ (hasN (w.1 0 0 0) v = true ∧ hasN (w.1 0 0 0) u = true) := fun z => by rw [h_8] at z; exact absurd z.1 (by decide)
    refine pw_ldc hX cn_X3_61 dX3_unlike_22 (q := 24) rfl ?_
    refine pw_ireturn hX dX3_unlike_24 ⟨_, rfl, rfl⟩ ⟨congrArg (fun z => some (Value.int z)) ?_, ?_⟩
    · rw [qUnl, if_neg hz]
    · rfl
  · obtain ⟨i, hi, rfl⟩ := hasN_of (bV_0 hV) h_8
    have hx : ix (nI i) = i := ix_nI (by have := hV.2.2.2.1; omega)
    have h7 := hV.2.2.2.1
    refine pw_aload_n hX rfl dX3_unlike_11 (q := 12) rfl ?_
    refine pw_getR hX 0 (by decide) fl_X3_10 rfl dX3_unlike_12 (q := 15) rfl ?_
    refine pw_iload_n hX rfl dX3_unlike_15 (q := 16) rfl ?_
    refine pw_cvI1 hX dX3_unlike_16 (q := 19) rfl mi_X2_has ml_X3_57 (rcV (show 0 < 7 by decide)) ⟨rfl, rfl, by decide, by decide⟩ rfl (Nat.le_of_ble_eq_true rfl) (c_X2_has h07 hV).r ?_
    refine pw_ifB_ne hX (tgt := 25) dX3_unlike_19 (q := 22) rfl (by decide) (fun h_19 => ?_) (fun h_19 => ?_)
    · obtain ⟨j, hj, rfl⟩ := hasN_of (bV_0 hV) h_19
      have hxj : ix (nI j) = j := ix_nI (by have := hV.2.2.2.1; omega)
      refine pw_aload_n hX rfl dX3_unlike_25 (q := 26) rfl ?_
      refine pw_getR hX 0 (by decide) fl_X3_10 rfl dX3_unlike_26 (q := 29) rfl ?_
      refine pw_iload_n hX rfl dX3_unlike_29 (q := 30) rfl ?_
      refine pw_iload_n hX rfl dX3_unlike_30 (q := 31) rfl ?_
      refine pw_cvI2 hX dX3_unlike_31 (q := 34) rfl mi_X2_unlikeTopics ml_X3_133 (rcV (show 0 < 7 by decide)) ⟨rfl, rfl, by decide, by decide⟩ rfl (Nat.le_of_ble_eq_true rfl) (c_X2_unlikeTopics h07 hV (by omega) (by omega)).r ?_
      refine pw_ireturn hX dX3_unlike_34 ⟨_, rfl, rfl⟩ ⟨congrArg (fun z => some (Value.int z)) ?_, ?_⟩
      · rw [qUnl, if_pos ⟨h_8, h_19⟩, hx, hxj]
      · rfl
    · have hz : ¬ (hasN (w.1 0 0 0) (nI i) = true ∧ hasN (w.1 0 0 0) u = true) := fun z => by rw [h_19] at z; exact absurd z.2 (by decide)
      refine pw_ldc hX cn_X3_61 dX3_unlike_22 (q := 24) rfl ?_
      refine pw_ireturn hX dX3_unlike_24 ⟨_, rfl, rfl⟩ ⟨congrArg (fun z => some (Value.int z)) ?_, ?_⟩
      · rw [qUnl, if_neg hz]
      · rfl
abbrev rm_X3_dead : Room := { frames := 3, cells := 0, slots := 0, locals := 67 }
set_option maxHeartbeats 800000 in
set_option maxRecDepth 20000 in
theorem c_X3_dead {l : Launch} {g : Geo} {w : WD} {v : Int32} (hV : bV (w.1 0)) : CtI l g yX3_dead cX3_dead 2 (some .int) rm_X3_dead [.ref (g_ad g 10 0), .int v] (w) (qDead (w.1 0) v) (w) := by
  refine ct_of mi_X3_dead.2.2.2.2.2 ⟨rfl, rfl⟩ (List.forall_mem_cons.mpr ⟨rfl, List.forall_mem_cons.mpr ⟨rfl, fun _ h => absurd h List.not_mem_nil⟩⟩) (Nat.le_of_ble_eq_true rfl) (fun P hX => ?_)
  replace hX : Gd l g RX3 cX3_dead rm_X3_dead 2 (some .int) _ _ P := hX
  show P (w) 0 [some (.ref (g_ad g 10 0)), some (.int v)] []
  refine pw_aload_n hX rfl dX3_dead_0 (q := 1) rfl ?_
  refine pw_getR hX 0 (by decide) fl_X3_10 rfl dX3_dead_1 (q := 4) rfl ?_
  refine pw_iload_n hX rfl dX3_dead_4 (q := 5) rfl ?_
  refine pw_cvI1 hX dX3_dead_5 (q := 8) rfl mi_X2_has ml_X3_57 (rcV (show 0 < 7 by decide)) ⟨rfl, rfl, by decide, by decide⟩ rfl (Nat.le_of_ble_eq_true rfl) (c_X2_has h07 hV).r ?_
  refine pw_ifB_eq hX (tgt := 22) dX3_dead_8 (q := 11) rfl (by decide) (fun h_8 => ?_) (fun h_8 => ?_)
  · refine pw_ldc hX cn_X3_61 dX3_dead_22 (q := 24) rfl ?_
    refine pw_ireturn hX dX3_dead_24 ⟨_, rfl, rfl⟩ ⟨congrArg (fun z => some (Value.int z)) ?_, ?_⟩
    · first | (rw [qDead, if_pos h_8, hx]; done) | (rw [qDead, if_neg (by rw [h_8]; decide)]; done)
    · rfl
  · obtain ⟨i, hi, rfl⟩ := hasN_of (bV_0 hV) h_8
    have hx : ix (nI i) = i := ix_nI (by have := hV.2.2.2.1; omega)
    have h7 := hV.2.2.2.1
    refine pw_aload_n hX rfl dX3_dead_11 (q := 12) rfl ?_
    refine pw_getR hX 0 (by decide) fl_X3_10 rfl dX3_dead_12 (q := 15) rfl ?_
    refine pw_iload_n hX rfl dX3_dead_15 (q := 16) rfl ?_
    refine pw_cvI1 hX dX3_dead_16 (q := 19) rfl mi_X2_deadTopics ml_X3_136 (rcV (show 0 < 7 by decide)) ⟨rfl, rfl, by decide, by decide⟩ rfl (Nat.le_of_ble_eq_true rfl) (c_X2_deadTopics h07 hV (by omega)).r ?_
    refine pw_goto hX (tgt := 24) dX3_dead_19 (by decide) ?_
    refine pw_ireturn hX dX3_dead_24 ⟨_, rfl, rfl⟩ ⟨congrArg (fun z => some (Value.int z)) ?_, ?_⟩
    · first | (rw [qDead, if_pos h_8, hx]; done) | (rw [qDead, if_neg (by rw [h_8]; decide)]; done)
    · rfl
abbrev rm_X3_count : Room := { frames := 4, cells := 0, slots := 0, locals := 89 }
set_option maxHeartbeats 800000 in
set_option maxRecDepth 20000 in
theorem c_X3_count {l : Launch} {g : Geo} {w : WD} {a : Int32} (hV : bV (w.1 0)) : CtI l g yX3_count cX3_count 2 (some .int) rm_X3_count [.ref (g_ad g 10 0), .int a] (w) (qCnt (w.1 0) (w.1 8 0 1) (w.1 7 0 1) a) (w) := by
  refine ct_of mi_X3_count.2.2.2.2.2 ⟨rfl, rfl⟩ (List.forall_mem_cons.mpr ⟨rfl, List.forall_mem_cons.mpr ⟨rfl, fun _ h => absurd h List.not_mem_nil⟩⟩) (Nat.le_of_ble_eq_true rfl) (fun P hX => ?_)
  replace hX : Gd l g RX3 cX3_count rm_X3_count 2 (some .int) _ _ P := hX
  show P (w) 0 [some (.ref (g_ad g 10 0)), some (.int a)] []
  refine pw_iload_n hX rfl dX3_count_0 (q := 1) rfl ?_
  rcases (show (∃ _ : inN 0 11 a = true, a = nI 0) ∨ (∃ _ : inN 0 11 a = true, a = nI 1) ∨ (∃ _ : inN 0 11 a = true, a = nI 2) ∨ (∃ _ : inN 0 11 a = true, a = nI 3) ∨ (∃ _ : inN 0 11 a = true, a = nI 4) ∨ (∃ _ : inN 0 11 a = true, a = nI 5) ∨ (∃ _ : inN 0 11 a = true, a = nI 6) ∨ (∃ _ : inN 0 11 a = true, a = nI 7) ∨ (∃ _ : inN 0 11 a = true, a = nI 8) ∨ (∃ _ : inN 0 11 a = true, a = nI 9) ∨ (∃ _ : inN 0 11 a = true, a = nI 10) ∨ (∃ _ : inN 0 11 a = true, a = nI 11) ∨ ¬ inN 0 11 a = true by
      by_cases hv : inN 0 11 a = true
      · obtain ⟨k, -, hk, e⟩ := inN_of (by decide) hv
        rcases (show k = 0 ∨ k = 1 ∨ k = 2 ∨ k = 3 ∨ k = 4 ∨ k = 5 ∨ k = 6 ∨ k = 7 ∨ k = 8 ∨ k = 9 ∨ k = 10 ∨ k = 11 by omega) with rfl | rfl | rfl | rfl | rfl | rfl | rfl | rfl | rfl | rfl | rfl | rfl
        · exact Or.inl ⟨hv, e⟩
        · exact Or.inr (Or.inl ⟨hv, e⟩)
        · exact Or.inr (Or.inr (Or.inl ⟨hv, e⟩))
        · exact Or.inr (Or.inr (Or.inr (Or.inl ⟨hv, e⟩)))
        · exact Or.inr (Or.inr (Or.inr (Or.inr (Or.inl ⟨hv, e⟩))))
        · exact Or.inr (Or.inr (Or.inr (Or.inr (Or.inr (Or.inl ⟨hv, e⟩)))))
        · exact Or.inr (Or.inr (Or.inr (Or.inr (Or.inr (Or.inr (Or.inl ⟨hv, e⟩))))))
        · exact Or.inr (Or.inr (Or.inr (Or.inr (Or.inr (Or.inr (Or.inr (Or.inl ⟨hv, e⟩)))))))
        · exact Or.inr (Or.inr (Or.inr (Or.inr (Or.inr (Or.inr (Or.inr (Or.inr (Or.inl ⟨hv, e⟩))))))))
        · exact Or.inr (Or.inr (Or.inr (Or.inr (Or.inr (Or.inr (Or.inr (Or.inr (Or.inr (Or.inl ⟨hv, e⟩)))))))))
        · exact Or.inr (Or.inr (Or.inr (Or.inr (Or.inr (Or.inr (Or.inr (Or.inr (Or.inr (Or.inr (Or.inl ⟨hv, e⟩))))))))))
        · exact Or.inr (Or.inr (Or.inr (Or.inr (Or.inr (Or.inr (Or.inr (Or.inr (Or.inr (Or.inr (Or.inr (Or.inl ⟨hv, e⟩)))))))))))
      · exact Or.inr (Or.inr (Or.inr (Or.inr (Or.inr (Or.inr (Or.inr (Or.inr (Or.inr (Or.inr (Or.inr (Or.inr (hv))))))))))))) with ⟨hv, rfl⟩ | ⟨hv, rfl⟩ | ⟨hv, rfl⟩ | ⟨hv, rfl⟩ | ⟨hv, rfl⟩ | ⟨hv, rfl⟩ | ⟨hv, rfl⟩ | ⟨hv, rfl⟩ | ⟨hv, rfl⟩ | ⟨hv, rfl⟩ | ⟨hv, rfl⟩ | ⟨hv, rfl⟩ | hv
  · have hxk := ix_nI (show 0 < 2 ^ 31 by decide)
    · refine pw_tabIn hX (tgt := 64) (off := 63) dX3_count_1 (by decide) (by decide) (by decide) (by decide) ?_
      refine pw_aload_n hX rfl dX3_count_64 (q := 65) rfl ?_
      refine pw_getR hX 0 (by decide) fl_X3_10 rfl dX3_count_65 (q := 68) rfl ?_
      refine pw_getVN hX (show 0 < 7 by decide) 0 (by decide) fn_X3_168 rfl dX3_count_68 (q := 71) rfl ?_
      refine pw_ireturn hX dX3_count_71 ⟨_, rfl, rfl⟩ ⟨congrArg (fun z => some (Value.int z)) ?_, ?_⟩
      · rw [qCnt, if_pos hv, hxk]; rfl
      · rfl
  · have hxk := ix_nI (show 1 < 2 ^ 31 by decide)
    · refine pw_tabIn hX (tgt := 72) (off := 71) dX3_count_1 (by decide) (by decide) (by decide) (by decide) ?_
      refine pw_aload_n hX rfl dX3_count_72 (q := 73) rfl ?_
      refine pw_getR hX 0 (by decide) fl_X3_10 rfl dX3_count_73 (q := 76) rfl ?_
      refine pw_iconst hX (k := 0) rfl (by decide) dX3_count_76 (q := 77) rfl ?_
      refine pw_cvI1 hX dX3_count_77 (q := 80) rfl mi_X2_howMany ml_X3_172 (rcV (show 0 < 7 by decide)) ⟨rfl, rfl, by decide, by decide⟩ rfl (Nat.le_of_ble_eq_true rfl) (c_X2_howMany h07 hV (by decide)).r ?_
      refine pw_ireturn hX dX3_count_80 ⟨_, rfl, rfl⟩ ⟨congrArg (fun z => some (Value.int z)) ?_, ?_⟩
      · rw [qCnt, if_pos hv, hxk]; rfl
      · rfl
  · have hxk := ix_nI (show 2 < 2 ^ 31 by decide)
    · refine pw_tabIn hX (tgt := 81) (off := 80) dX3_count_1 (by decide) (by decide) (by decide) (by decide) ?_
      refine pw_aload_n hX rfl dX3_count_81 (q := 82) rfl ?_
      refine pw_getR hX 0 (by decide) fl_X3_10 rfl dX3_count_82 (q := 85) rfl ?_
      refine pw_iconst hX (k := 1) rfl (by decide) dX3_count_85 (q := 86) rfl ?_
      refine pw_cvI1 hX dX3_count_86 (q := 89) rfl mi_X2_howMany ml_X3_172 (rcV (show 0 < 7 by decide)) ⟨rfl, rfl, by decide, by decide⟩ rfl (Nat.le_of_ble_eq_true rfl) (c_X2_howMany h07 hV (by decide)).r ?_
      refine pw_ireturn hX dX3_count_89 ⟨_, rfl, rfl⟩ ⟨congrArg (fun z => some (Value.int z)) ?_, ?_⟩
      · rw [qCnt, if_pos hv, hxk]; rfl
      · rfl
  · have hxk := ix_nI (show 3 < 2 ^ 31 by decide)
    · refine pw_tabIn hX (tgt := 90) (off := 89) dX3_count_1 (by decide) (by decide) (by decide) (by decide) ?_
      refine pw_aload_n hX rfl dX3_count_90 (q := 91) rfl ?_
      refine pw_getR hX 0 (by decide) fl_X3_10 rfl dX3_count_91 (q := 94) rfl ?_
      refine pw_getVN hX (show 0 < 7 by decide) 1 (by decide) fn_X3_175 rfl dX3_count_94 (q := 97) rfl ?_
      refine pw_ireturn hX dX3_count_97 ⟨_, rfl, rfl⟩ ⟨congrArg (fun z => some (Value.int z)) ?_, ?_⟩
      · rw [qCnt, if_pos hv, hxk]; rfl
      · rfl
  · have hxk := ix_nI (show 4 < 2 ^ 31 by decide)
    · refine pw_tabIn hX (tgt := 98) (off := 97) dX3_count_1 (by decide) (by decide) (by decide) (by decide) ?_
      refine pw_aload_n hX rfl dX3_count_98 (q := 99) rfl ?_
      refine pw_getR hX 0 (by decide) fl_X3_10 rfl dX3_count_99 (q := 102) rfl ?_
      refine pw_getVN hX (show 0 < 7 by decide) 2 (by decide) fn_X3_178 rfl dX3_count_102 (q := 105) rfl ?_
      refine pw_ireturn hX dX3_count_105 ⟨_, rfl, rfl⟩ ⟨congrArg (fun z => some (Value.int z)) ?_, ?_⟩
      · rw [qCnt, if_pos hv, hxk]; rfl
      · rfl
  · have hxk := ix_nI (show 5 < 2 ^ 31 by decide)
    · refine pw_tabIn hX (tgt := 106) (off := 105) dX3_count_1 (by decide) (by decide) (by decide) (by decide) ?_
      refine pw_aload_n hX rfl dX3_count_106 (q := 107) rfl ?_
      refine pw_getR hX 0 (by decide) fl_X3_10 rfl dX3_count_107 (q := 110) rfl ?_
      refine pw_cvI0 hX dX3_count_110 (q := 113) rfl mi_X2_allRumors ml_X3_181 (rcV (show 0 < 7 by decide)) ⟨rfl, rfl, by decide, by decide⟩ rfl (Nat.le_of_ble_eq_true rfl) (c_X2_allRumors h07 hV).r ?_
      refine pw_ireturn hX dX3_count_113 ⟨_, rfl, rfl⟩ ⟨congrArg (fun z => some (Value.int z)) ?_, ?_⟩
      · rw [qCnt, if_pos hv, hxk]; rfl
      · rfl
  · have hxk := ix_nI (show 6 < 2 ^ 31 by decide)
    · refine pw_tabIn hX (tgt := 114) (off := 113) dX3_count_1 (by decide) (by decide) (by decide) (by decide) ?_
      refine pw_aload_n hX rfl dX3_count_114 (q := 115) rfl ?_
      refine pw_getR hX 0 (by decide) fl_X3_10 rfl dX3_count_115 (q := 118) rfl ?_
      refine pw_cvI0 hX dX3_count_118 (q := 121) rfl mi_X2_allTombs ml_X3_184 (rcV (show 0 < 7 by decide)) ⟨rfl, rfl, by decide, by decide⟩ rfl (Nat.le_of_ble_eq_true rfl) (c_X2_allTombs h07 hV).r ?_
      refine pw_ireturn hX dX3_count_121 ⟨_, rfl, rfl⟩ ⟨congrArg (fun z => some (Value.int z)) ?_, ?_⟩
      · rw [qCnt, if_pos hv, hxk]; rfl
      · rfl
  · have hxk := ix_nI (show 7 < 2 ^ 31 by decide)
    · refine pw_tabIn hX (tgt := 122) (off := 121) dX3_count_1 (by decide) (by decide) (by decide) (by decide) ?_
      refine pw_aload_n hX rfl dX3_count_122 (q := 123) rfl ?_
      refine pw_getR hX 0 (by decide) fl_X3_10 rfl dX3_count_123 (q := 126) rfl ?_
      refine pw_cvI0 hX dX3_count_126 (q := 129) rfl mi_X2_allDead ml_X3_187 (rcV (show 0 < 7 by decide)) ⟨rfl, rfl, by decide, by decide⟩ rfl (Nat.le_of_ble_eq_true rfl) (c_X2_allDead h07 hV).r ?_
      refine pw_ireturn hX dX3_count_129 ⟨_, rfl, rfl⟩ ⟨congrArg (fun z => some (Value.int z)) ?_, ?_⟩
      · rw [qCnt, if_pos hv, hxk]; rfl
      · rfl
  · have hxk := ix_nI (show 8 < 2 ^ 31 by decide)
    · refine pw_tabIn hX (tgt := 130) (off := 129) dX3_count_1 (by decide) (by decide) (by decide) (by decide) ?_
      refine pw_aload_n hX rfl dX3_count_130 (q := 131) rfl ?_
      refine pw_getR hX 0 (by decide) fl_X3_10 rfl dX3_count_131 (q := 134) rfl ?_
      refine pw_cvI0 hX dX3_count_134 (q := 137) rfl mi_X2_allGhosts ml_X3_152 (rcV (show 0 < 7 by decide)) ⟨rfl, rfl, by decide, by decide⟩ rfl (Nat.le_of_ble_eq_true rfl) (c_X2_allGhosts h07 hV).r ?_
      refine pw_ireturn hX dX3_count_137 ⟨_, rfl, rfl⟩ ⟨congrArg (fun z => some (Value.int z)) ?_, ?_⟩
      · rw [qCnt, if_pos hv, hxk]; rfl
      · rfl
  · have hxk := ix_nI (show 9 < 2 ^ 31 by decide)
    · refine pw_tabIn hX (tgt := 138) (off := 137) dX3_count_1 (by decide) (by decide) (by decide) (by decide) ?_
      refine pw_aload_n hX rfl dX3_count_138 (q := 139) rfl ?_
      refine pw_getR hX 0 (by decide) fl_X3_10 rfl dX3_count_139 (q := 142) rfl ?_
      refine pw_getVN hX (show 0 < 7 by decide) 3 (by decide) fn_X3_190 rfl dX3_count_142 (q := 145) rfl ?_
      refine pw_ireturn hX dX3_count_145 ⟨_, rfl, rfl⟩ ⟨congrArg (fun z => some (Value.int z)) ?_, ?_⟩
      · rw [qCnt, if_pos hv, hxk]; rfl
      · rfl
  · have hxk := ix_nI (show 10 < 2 ^ 31 by decide)
    · refine pw_tabIn hX (tgt := 146) (off := 145) dX3_count_1 (by decide) (by decide) (by decide) (by decide) ?_
      refine pw_aload_n hX rfl dX3_count_146 (q := 147) rfl ?_
      refine pw_getR hX 2 (by decide) fl_X3_22 rfl dX3_count_147 (q := 150) rfl ?_
      refine pw_getHN hX 1 (by decide) fn_X3_193 rfl dX3_count_150 (q := 153) rfl ?_
      refine pw_ireturn hX dX3_count_153 ⟨_, rfl, rfl⟩ ⟨congrArg (fun z => some (Value.int z)) ?_, ?_⟩
      · rw [qCnt, if_pos hv, hxk]; rfl
      · rfl
  · have hxk := ix_nI (show 11 < 2 ^ 31 by decide)
    · refine pw_tabIn hX (tgt := 154) (off := 153) dX3_count_1 (by decide) (by decide) (by decide) (by decide) ?_
      refine pw_aload_n hX rfl dX3_count_154 (q := 155) rfl ?_
      refine pw_getR hX 3 (by decide) fl_X3_29 rfl dX3_count_155 (q := 158) rfl ?_
      refine pw_getON hX 1 (by decide) fn_X3_196 rfl dX3_count_158 (q := 161) rfl ?_
      refine pw_ireturn hX dX3_count_161 ⟨_, rfl, rfl⟩ ⟨congrArg (fun z => some (Value.int z)) ?_, ?_⟩
      · rw [qCnt, if_pos hv, hxk]; rfl
      · rfl
  · skip
    · refine pw_tabOut hX (tgt := 162) dX3_count_1 (inN_out hv) (by decide) ?_
      refine pw_ldc hX cn_X3_61 dX3_count_162 (q := 164) rfl ?_
      refine pw_ireturn hX dX3_count_164 ⟨_, rfl, rfl⟩ ⟨congrArg (fun z => some (Value.int z)) ?_, ?_⟩
      · rw [qCnt, if_neg hv]
      · rfl
abbrev rm_X3_villagerOf : Room := { frames := 2, cells := 0, slots := 0, locals := 44 }
set_option maxHeartbeats 800000 in
set_option maxRecDepth 20000 in
theorem c_X3_villagerOf {l : Launch} {g : Geo} {w : WD} {v a : Int32} (hV : bV (w.1 0)) : CtI l g yX3_villagerOf cX3_villagerOf 3 (some .int) rm_X3_villagerOf [.ref (g_ad g 10 0), .int v, .int a] (w) (qOf (w.1 0) v a) (w) := by
  refine ct_of mi_X3_villagerOf.2.2.2.2.2 ⟨rfl, rfl⟩ (List.forall_mem_cons.mpr ⟨rfl, List.forall_mem_cons.mpr ⟨rfl, List.forall_mem_cons.mpr ⟨rfl, fun _ h => absurd h List.not_mem_nil⟩⟩⟩) (Nat.le_of_ble_eq_true rfl) (fun P hX => ?_)
  replace hX : Gd l g RX3 cX3_villagerOf rm_X3_villagerOf 3 (some .int) _ _ P := hX
  show P (w) 0 [some (.ref (g_ad g 10 0)), some (.int v), some (.int a)] []
  refine pw_aload_n hX rfl dX3_villagerOf_0 (q := 1) rfl ?_
  refine pw_getR hX 0 (by decide) fl_X3_10 rfl dX3_villagerOf_1 (q := 4) rfl ?_
  refine pw_iload_n hX rfl dX3_villagerOf_4 (q := 5) rfl ?_
  refine pw_cvI1 hX dX3_villagerOf_5 (q := 8) rfl mi_X2_has ml_X3_57 (rcV (show 0 < 7 by decide)) ⟨rfl, rfl, by decide, by decide⟩ rfl (Nat.le_of_ble_eq_true rfl) (c_X2_has h07 hV).r ?_
  refine pw_ifB_ne hX (tgt := 14) dX3_villagerOf_8 (q := 11) rfl (by decide) (fun h_8 => ?_) (fun h_8 => ?_)
  · obtain ⟨i, hi, rfl⟩ := hasN_of (bV_0 hV) h_8
    have hx : ix (nI i) = i := ix_nI (by have := hV.2.2.2.1; omega)
    have h7 := hV.2.2.2.1
    refine pw_iload_n hX rfl dX3_villagerOf_14 (q := 15) rfl ?_
    rcases (show (∃ _ : inN 0 5 a = true, a = nI 0) ∨ (∃ _ : inN 0 5 a = true, a = nI 1) ∨ (∃ _ : inN 0 5 a = true, a = nI 2) ∨ (∃ _ : inN 0 5 a = true, a = nI 3) ∨ (∃ _ : inN 0 5 a = true, a = nI 4) ∨ (∃ _ : inN 0 5 a = true, a = nI 5) ∨ ¬ inN 0 5 a = true by
        by_cases hv : inN 0 5 a = true
        · obtain ⟨k, -, hk, e⟩ := inN_of (by decide) hv
          rcases (show k = 0 ∨ k = 1 ∨ k = 2 ∨ k = 3 ∨ k = 4 ∨ k = 5 by omega) with rfl | rfl | rfl | rfl | rfl | rfl
          · exact Or.inl ⟨hv, e⟩
          · exact Or.inr (Or.inl ⟨hv, e⟩)
          · exact Or.inr (Or.inr (Or.inl ⟨hv, e⟩))
          · exact Or.inr (Or.inr (Or.inr (Or.inl ⟨hv, e⟩)))
          · exact Or.inr (Or.inr (Or.inr (Or.inr (Or.inl ⟨hv, e⟩))))
          · exact Or.inr (Or.inr (Or.inr (Or.inr (Or.inr (Or.inl ⟨hv, e⟩)))))
        · exact Or.inr (Or.inr (Or.inr (Or.inr (Or.inr (Or.inr (hv))))))) with ⟨hv, rfl⟩ | ⟨hv, rfl⟩ | ⟨hv, rfl⟩ | ⟨hv, rfl⟩ | ⟨hv, rfl⟩ | ⟨hv, rfl⟩ | hv
    · have hxk := ix_nI (show 0 < 2 ^ 31 by decide)
      · refine pw_tabIn hX (tgt := 52) (off := 37) dX3_villagerOf_15 (by decide) (by decide) (by decide) (by decide) ?_
        refine pw_aload_n hX rfl dX3_villagerOf_52 (q := 53) rfl ?_
        refine pw_getR hX 0 (by decide) fl_X3_10 rfl dX3_villagerOf_53 (q := 56) rfl ?_
        refine pw_getVN hX (show 0 < 7 by decide) 4 (by decide) fn_X3_62 rfl dX3_villagerOf_56 (q := 59) rfl ?_
        refine pw_iload_n hX rfl dX3_villagerOf_59 (q := 60) rfl ?_
        refine pw_ialdV hX (show 0 < 7 by decide) 1 (by decide) (show _ < 7 by omega) dX3_villagerOf_60 (q := 61) rfl ?_
        refine pw_ireturn hX dX3_villagerOf_61 ⟨_, rfl, rfl⟩ ⟨congrArg (fun z => some (Value.int z)) ?_, ?_⟩
        · rw [qOf, if_pos ⟨h_8, hv⟩, hx, hxk]; rfl
        · rfl
    · have hxk := ix_nI (show 1 < 2 ^ 31 by decide)
      · refine pw_tabIn hX (tgt := 62) (off := 47) dX3_villagerOf_15 (by decide) (by decide) (by decide) (by decide) ?_
        refine pw_aload_n hX rfl dX3_villagerOf_62 (q := 63) rfl ?_
        refine pw_getR hX 0 (by decide) fl_X3_10 rfl dX3_villagerOf_63 (q := 66) rfl ?_
        refine pw_getVN hX (show 0 < 7 by decide) 5 (by decide) fn_X3_66 rfl dX3_villagerOf_66 (q := 69) rfl ?_
        refine pw_iload_n hX rfl dX3_villagerOf_69 (q := 70) rfl ?_
        refine pw_ialdV hX (show 0 < 7 by decide) 2 (by decide) (show _ < 7 by omega) dX3_villagerOf_70 (q := 71) rfl ?_
        refine pw_ireturn hX dX3_villagerOf_71 ⟨_, rfl, rfl⟩ ⟨congrArg (fun z => some (Value.int z)) ?_, ?_⟩
        · rw [qOf, if_pos ⟨h_8, hv⟩, hx, hxk]; rfl
        · rfl
    · have hxk := ix_nI (show 2 < 2 ^ 31 by decide)
      · refine pw_tabIn hX (tgt := 72) (off := 57) dX3_villagerOf_15 (by decide) (by decide) (by decide) (by decide) ?_
        refine pw_aload_n hX rfl dX3_villagerOf_72 (q := 73) rfl ?_
        refine pw_getR hX 0 (by decide) fl_X3_10 rfl dX3_villagerOf_73 (q := 76) rfl ?_
        refine pw_iload_n hX rfl dX3_villagerOf_76 (q := 77) rfl ?_
        refine pw_cvI1 hX dX3_villagerOf_77 (q := 80) rfl mi_X2_rumorTopics ml_X3_69 (rcV (show 0 < 7 by decide)) ⟨rfl, rfl, by decide, by decide⟩ rfl (Nat.le_of_ble_eq_true rfl) (c_X2_rumorTopics h07 hV (by omega)).r ?_
        refine pw_ireturn hX dX3_villagerOf_80 ⟨_, rfl, rfl⟩ ⟨congrArg (fun z => some (Value.int z)) ?_, ?_⟩
        · rw [qOf, if_pos ⟨h_8, hv⟩, hx, hxk]; rfl
        · rfl
    · have hxk := ix_nI (show 3 < 2 ^ 31 by decide)
      · refine pw_tabIn hX (tgt := 81) (off := 66) dX3_villagerOf_15 (by decide) (by decide) (by decide) (by decide) ?_
        refine pw_aload_n hX rfl dX3_villagerOf_81 (q := 82) rfl ?_
        refine pw_getR hX 0 (by decide) fl_X3_10 rfl dX3_villagerOf_82 (q := 85) rfl ?_
        refine pw_iload_n hX rfl dX3_villagerOf_85 (q := 86) rfl ?_
        refine pw_cvI1 hX dX3_villagerOf_86 (q := 89) rfl mi_X2_tombTopics ml_X3_72 (rcV (show 0 < 7 by decide)) ⟨rfl, rfl, by decide, by decide⟩ rfl (Nat.le_of_ble_eq_true rfl) (c_X2_tombTopics h07 hV (by omega)).r ?_
        refine pw_ireturn hX dX3_villagerOf_89 ⟨_, rfl, rfl⟩ ⟨congrArg (fun z => some (Value.int z)) ?_, ?_⟩
        · rw [qOf, if_pos ⟨h_8, hv⟩, hx, hxk]; rfl
        · rfl
    · have hxk := ix_nI (show 4 < 2 ^ 31 by decide)
      · refine pw_tabIn hX (tgt := 90) (off := 75) dX3_villagerOf_15 (by decide) (by decide) (by decide) (by decide) ?_
        refine pw_aload_n hX rfl dX3_villagerOf_90 (q := 91) rfl ?_
        refine pw_getR hX 0 (by decide) fl_X3_10 rfl dX3_villagerOf_91 (q := 94) rfl ?_
        refine pw_getVN hX (show 0 < 7 by decide) 7 (by decide) fn_X3_75 rfl dX3_villagerOf_94 (q := 97) rfl ?_
        refine pw_iload_n hX rfl dX3_villagerOf_97 (q := 98) rfl ?_
        refine pw_ialdV hX (show 0 < 7 by decide) 4 (by decide) (show _ < 7 by omega) dX3_villagerOf_98 (q := 99) rfl ?_
        refine pw_ireturn hX dX3_villagerOf_99 ⟨_, rfl, rfl⟩ ⟨congrArg (fun z => some (Value.int z)) ?_, ?_⟩
        · rw [qOf, if_pos ⟨h_8, hv⟩, hx, hxk]; rfl
        · rfl
    · have hxk := ix_nI (show 5 < 2 ^ 31 by decide)
      · refine pw_tabIn hX (tgt := 100) (off := 85) dX3_villagerOf_15 (by decide) (by decide) (by decide) (by decide) ?_
        refine pw_aload_n hX rfl dX3_villagerOf_100 (q := 101) rfl ?_
        refine pw_getR hX 0 (by decide) fl_X3_10 rfl dX3_villagerOf_101 (q := 104) rfl ?_
        refine pw_iload_n hX rfl dX3_villagerOf_104 (q := 105) rfl ?_
        refine pw_cvI1 hX dX3_villagerOf_105 (q := 108) rfl mi_X2_isAsleep ml_X3_78 (rcV (show 0 < 7 by decide)) ⟨rfl, rfl, by decide, by decide⟩ rfl (Nat.le_of_ble_eq_true rfl) (c_X2_isAsleep h07 hV).r ?_
        refine pw_ifB_eq hX (tgt := 122) dX3_villagerOf_108 (q := 111) rfl (by decide) (fun h_108 => ?_) (fun h_108 => ?_)
        · rw [kAs_n h_8 hx] at h_108
          have h_108 := of_decide_eq_false h_108
          refine pw_ldc hX cn_X3_84 dX3_villagerOf_122 (q := 124) rfl ?_
          refine pw_ireturn hX dX3_villagerOf_124 ⟨_, rfl, rfl⟩ ⟨congrArg (fun z => some (Value.int z)) ?_, ?_⟩
          · rw [qOf, if_pos ⟨h_8, hv⟩, hx, hxk]; first | (rw [if_neg (by decide), if_neg (by decide), if_neg (by decide), if_neg (by decide), if_neg (by decide), if_pos h_108]; done) | (rw [if_neg (by decide), if_neg (by decide), if_neg (by decide), if_neg (by decide), if_neg (by decide), if_neg h_108]; done)
          · rfl
        · rw [kAs_n h_8 hx] at h_108
          have h_108 := of_decide_eq_true h_108
          refine pw_aload_n hX rfl dX3_villagerOf_111 (q := 112) rfl ?_
          refine pw_getR hX 0 (by decide) fl_X3_10 rfl dX3_villagerOf_112 (q := 115) rfl ?_
          refine pw_iload_n hX rfl dX3_villagerOf_115 (q := 116) rfl ?_
          refine pw_cvI1 hX dX3_villagerOf_116 (q := 119) rfl mi_X2_ticksAsleep ml_X3_81 (rcV (show 0 < 7 by decide)) ⟨rfl, rfl, by decide, by decide⟩ rfl (Nat.le_of_ble_eq_true rfl) (c_X2_ticksAsleep h07 (by omega)).r ?_
          refine pw_goto hX (tgt := 124) dX3_villagerOf_119 (by decide) ?_
          refine pw_ireturn hX dX3_villagerOf_124 ⟨_, rfl, rfl⟩ ⟨congrArg (fun z => some (Value.int z)) ?_, ?_⟩
          · rw [qOf, if_pos ⟨h_8, hv⟩, hx, hxk]; first | (rw [if_neg (by decide), if_neg (by decide), if_neg (by decide), if_neg (by decide), if_neg (by decide), if_pos h_108]; done) | (rw [if_neg (by decide), if_neg (by decide), if_neg (by decide), if_neg (by decide), if_neg (by decide), if_neg h_108]; done)
          · rfl
    · skip
      · refine pw_tabOut hX (tgt := 125) dX3_villagerOf_15 (inN_out hv) (by decide) ?_
        refine pw_ldc hX cn_X3_61 dX3_villagerOf_125 (q := 127) rfl ?_
        refine pw_ireturn hX dX3_villagerOf_127 ⟨_, rfl, rfl⟩ ⟨congrArg (fun z => some (Value.int z)) ?_, ?_⟩
        · rw [qOf, if_neg (fun z => hv z.2)]
        · rfl
  · refine pw_ldc hX cn_X3_61 dX3_villagerOf_11 (q := 13) rfl ?_
    refine pw_ireturn hX dX3_villagerOf_13 ⟨_, rfl, rfl⟩ ⟨congrArg (fun z => some (Value.int z)) ?_, ?_⟩
    · rw [qOf, if_neg (fun z => by rw [h_8] at z; exact absurd z.1 (by decide))]
    · rfl

