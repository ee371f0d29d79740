theorem kHo_2 (V : Nat → Nat → Nat) (t : Nat) : ∀ v, (kHo V t v).2 < 2 ^ v
  | 0 => Nat.lt_of_lt_of_le (show 0 < 1 by decide) (Nat.le_refl _)
  | v + 1 => by
    have h := kHo_2 V t v
    have hp : 2 ^ v < 2 ^ (v + 1) := Nat.pow_lt_pow_right (by decide) (by omega)
    rw [kHo_s]
    dsimp only
    split
    · refine Nat.or_lt_two_pow ?_ hp
      split
      · exact Nat.two_pow_pos _
      · omega
    · omega
theorem bP_Cp {V : Nat → Nat → Nat} (U : Nat → Nat → Nat) (h : bP V) : bP (kCp U V) := by
  obtain ⟨⟨h1, h2, h3, h4, h5, h6⟩, h7⟩ := h
  refine ⟨⟨fun k i a b c => ?_, fun k i a b c => ?_, h3, h4, h5, h6⟩, h7⟩
  · unfold kCp; rw [if_neg (by omega), if_pos (by omega)]; exact h1 k i a b c
  · unfold kCp; rw [if_neg (by omega), if_pos (by omega)]; exact h2 k i a b c
theorem CtI.t {l : Launch} {g : Geo} {y : MethodName} {bytes : ByteArray} {maxL : Nat} {ret : Option FieldType} {rm : Room} {av : List Value} {w : WD} {U : Nat → Nat → Nat} {r : Int32} (h : CtI l g y bytes maxL ret rm av (wO (wO w 1 U) 0 (w.1 0)) r (wO (wO w 1 U) 0 (w.1 0))) : CtI l g y bytes maxL ret rm av (wO w 1 U) r (wO w 1 U) := by
  rw [wO_comm w _ _ (show 1 ≠ 0 by decide), wO_id] at h; exact h
def qGU (V U : Nat → Nat → Nat) (i j a : Nat) : Nat → Nat → Nat := (kTk (if a = 0 then kCp U V else (kPass (kCp U V) a).1) i j).1
def qGh (V U : Nat → Nat → Nat) (v u a : Int32) : Int32 := if kTwo V v u = true ∧ inN 0 60 a = true then (if V 1 (ix v) = 2 ∨ V 1 (ix u) = 2 then -1000002 else nI (sm (qGU V U (ix v) (ix u) (ix a) 4) (qGU V U (ix v) (ix u) (ix a) 0 0)) - nI (sm (V 4) (V 0 0))) else -1000001
def qGhW (w : WD) (v u a : Int32) : WD := if kTwo (w.1 0) v u = true ∧ inN 0 60 a = true then (if w.1 0 1 (ix v) = 2 ∨ w.1 0 1 (ix u) = 2 then w else wO w 1 (qGU (w.1 0) (w.1 1) (ix v) (ix u) (ix a))) else w
theorem bP_Pass {V : Nat → Nat → Nat} (h : bP V) {k : Nat} (hk : V 0 1 + k < 2 ^ 30) : bP (kPass V k).1 := by
  have h7 := h.1.2.2.2.1
  unfold kPass
  exact (bP_Pv (bP_t h hk) _ h7).1
abbrev rm_X3_newest : Room := { frames := 2, cells := 0, slots := 0, locals := 46 }
set_option maxHeartbeats 800000 in
set_option maxRecDepth 20000 in
theorem c_X3_newest {l : Launch} {g : Geo} {w : WD} {v : Int32} (hV : bV (w.1 0)) : CtI l g yX3_newest cX3_newest 3 (some .int) rm_X3_newest [.ref (g_ad g 10 0), .int v] (w) (qNew (w.1 0) v) (w) := by
  refine ct_of mi_X3_newest.2.2.2.2.2 ⟨rfl, rfl⟩ (List.forall_mem_cons.mpr ⟨rfl, List.forall_mem_cons.mpr ⟨rfl, fun _ h => absurd h List.not_mem_nil⟩⟩) (Nat.le_of_ble_eq_true rfl) (fun P hX => ?_)
  replace hX : Gd l g RX3 cX3_newest rm_X3_newest 3 (some .int) _ _ P := hX
  show P (w) 0 [some (.ref (g_ad g 10 0)), some (.int v), none] []
  refine pw_iload_n hX rfl dX3_newest_0 (q := 1) rfl ?_
  refine pw_csI1 hX dX3_newest_1 (q := 4) rfl mi_X3_isTopic ml_X3_96 ⟨rfl, rfl, by decide, by decide⟩ rfl (Nat.le_of_ble_eq_true rfl) (c_X3_isTopic) ?_
  refine pw_ifB_ne hX (tgt := 10) dX3_newest_4 (q := 7) rfl (by decide) (fun h_4 => ?_) (fun h_4 => ?_)
  · obtain ⟨j, hj, rfl⟩ := hasN_of (by decide) h_4
    have hxj : ix (nI j) = j := ix_nI (by omega)
    have h7 := hV.2.2.2.1
    have hkb : (kHo (w.1 0) j (w.1 0 0 0)).2 < 2 ^ 31 := Nat.lt_of_lt_of_le (kHo_2 _ _ _) (Nat.pow_le_pow_right (by decide) (by omega))
    refine pw_aload_n hX rfl dX3_newest_10 (q := 11) rfl ?_
    refine pw_getR hX 0 (by decide) fl_X3_10 rfl dX3_newest_11 (q := 14) rfl ?_
    refine pw_iload_n hX rfl dX3_newest_14 (q := 15) rfl ?_
    refine pw_cvI1 hX dX3_newest_15 (q := 18) rfl mi_X2_holdersOfNewest ml_X3_130 (rcV (show 0 < 7 by decide)) ⟨rfl, rfl, by decide, by decide⟩ rfl (Nat.le_of_ble_eq_true rfl) (c_X2_holdersOfNewest h07 hV hj).r ?_
    refine pw_istore_n hX (by decide) dX3_newest_18 (q := 19) rfl ?_
    refine pw_iload_n hX rfl dX3_newest_19 (q := 20) rfl ?_
    refine pw_ifN_ne hX (by first | exact hkb | omega) (tgt := 28) dX3_newest_20 (q := 23) rfl (by decide) (fun h_20 => ?_) (fun h_20 => ?_)
    · refine pw_iload_n hX rfl dX3_newest_28 (q := 29) rfl ?_
      refine pw_ireturn hX dX3_newest_29 ⟨_, rfl, rfl⟩ ⟨congrArg (fun z => some (Value.int z)) ?_, ?_⟩
      · rw [qNew, if_pos h_4, hxj]; first | (rw [if_pos h_20]; done) | (rw [if_neg h_20]; done)
      · rfl
    · refine pw_ldc hX cn_X3_84 dX3_newest_23 (q := 25) rfl ?_
      refine pw_goto hX (tgt := 29) dX3_newest_25 (by decide) ?_
      refine pw_ireturn hX dX3_newest_29 ⟨_, rfl, rfl⟩ ⟨congrArg (fun z => some (Value.int z)) ?_, ?_⟩
      · rw [qNew, if_pos h_4, hxj]; first | (rw [if_pos h_20]; done) | (rw [if_neg h_20]; done)
      · rfl
  · refine pw_ldc hX cn_X3_61 dX3_newest_7 (q := 9) rfl ?_
    refine pw_ireturn hX dX3_newest_9 ⟨_, rfl, rfl⟩ ⟨congrArg (fun z => some (Value.int z)) ?_, ?_⟩
    · rw [qNew, if_neg (by rw [h_4]; decide)]
    · rfl
abbrev rm_X3_entryOf : Room := { frames := 2, cells := 0, slots := 0, locals := 44 }
set_option maxHeartbeats 800000 in
set_option maxRecDepth 20000 in
theorem c_X3_entryOf {l : Launch} {g : Geo} {w : WD} {v t a : Int32} (hV : bV (w.1 0)) : CtI l g yX3_entryOf cX3_entryOf 6 (some .int) rm_X3_entryOf [.ref (g_ad g 10 0), .int v, .int t, .int a] (w) (qEO (w.1 0) v t a) (w) := by
  refine ct_of mi_X3_entryOf.2.2.2.2.2 ⟨rfl, rfl⟩ (List.forall_mem_cons.mpr ⟨rfl, List.forall_mem_cons.mpr ⟨rfl, List.forall_mem_cons.mpr ⟨rfl, List.forall_mem_cons.mpr ⟨rfl, fun _ h => absurd h List.not_mem_nil⟩⟩⟩⟩) (Nat.le_of_ble_eq_true rfl) (fun P hX => ?_)
  replace hX : Gd l g RX3 cX3_entryOf rm_X3_entryOf 6 (some .int) _ _ P := hX
  show P (w) 0 [some (.ref (g_ad g 10 0)), some (.int v), some (.int t), some (.int a), none, none] []
  refine pw_aload_n hX rfl dX3_entryOf_0 (q := 1) rfl ?_
  refine pw_getR hX 0 (by decide) fl_X3_10 rfl dX3_entryOf_1 (q := 4) rfl ?_
  refine pw_iload_n hX rfl dX3_entryOf_4 (q := 5) rfl ?_
  refine pw_cvI1 hX dX3_entryOf_5 (q := 8) rfl mi_X2_has ml_X3_57 (rcV (show 0 < 7 by decide)) ⟨rfl, rfl, by decide, by decide⟩ rfl (Nat.le_of_ble_eq_true rfl) (c_X2_has h07 hV).r ?_
  refine pw_ifB_eq hX (tgt := 28) dX3_entryOf_8 (q := 11) rfl (by decide) (fun h_8 => ?_) (fun h_8 => ?_)
  · have hz : ¬ (hasN (w.1 0 0 0) v = true ∧ hasN 12 t = true ∧ inN 0 7 a = true) := fun z => by rw [h_8] at z; exact absurd z.1 (by decide)
    refine pw_ldc hX cn_X3_61 dX3_entryOf_28 (q := 30) rfl ?_
    refine pw_ireturn hX dX3_entryOf_30 ⟨_, rfl, rfl⟩ ⟨congrArg (fun z => some (Value.int z)) ?_, ?_⟩
    · rw [qEO, if_neg hz]
    · rfl
  · obtain ⟨i, hi, rfl⟩ := hasN_of (bV_0 hV) h_8
    have hx : ix (nI i) = i := ix_nI (by have := hV.2.2.2.1; omega)
    have h7 := hV.2.2.2.1
    refine pw_iload_n hX rfl dX3_entryOf_11 (q := 12) rfl ?_
    refine pw_csI1 hX dX3_entryOf_12 (q := 15) rfl mi_X3_isTopic ml_X3_96 ⟨rfl, rfl, by decide, by decide⟩ rfl (Nat.le_of_ble_eq_true rfl) (c_X3_isTopic) ?_
    refine pw_ifB_eq hX (tgt := 28) dX3_entryOf_15 (q := 18) rfl (by decide) (fun h_15 => ?_) (fun h_15 => ?_)
    · have hz : ¬ (hasN (w.1 0 0 0) (nI i) = true ∧ hasN 12 t = true ∧ inN 0 7 a = true) := fun z => by rw [h_15] at z; exact absurd z.2.1 (by decide)
      refine pw_ldc hX cn_X3_61 dX3_entryOf_28 (q := 30) rfl ?_
      refine pw_ireturn hX dX3_entryOf_30 ⟨_, rfl, rfl⟩ ⟨congrArg (fun z => some (Value.int z)) ?_, ?_⟩
      · rw [qEO, if_neg hz]
      · rfl
    · obtain ⟨j, hj, rfl⟩ := hasN_of (by decide) h_15
      have hxj : ix (nI j) = j := ix_nI (by omega)
      refine pw_iload_n hX rfl dX3_entryOf_18 (q := 19) rfl ?_
      refine pw_if_lt hX (tgt := 28) dX3_entryOf_19 (q := 22) rfl (by decide) (fun h_19 => ?_) (fun h_19 => ?_)
      · have hz : ¬ (hasN (w.1 0 0 0) (nI i) = true ∧ hasN 12 (nI j) = true ∧ inN 0 7 a = true) := fun z => by rw [inN_lo0 h_19] at z; exact absurd z.2.2 (by decide)
        refine pw_ldc hX cn_X3_61 dX3_entryOf_28 (q := 30) rfl ?_
        refine pw_ireturn hX dX3_entryOf_30 ⟨_, rfl, rfl⟩ ⟨congrArg (fun z => some (Value.int z)) ?_, ?_⟩
        · rw [qEO, if_neg hz]
        · rfl
      · refine pw_iload_n hX rfl dX3_entryOf_22 (q := 23) rfl ?_
        refine pw_bipush hX (k := 7) (by decide) dX3_entryOf_23 (q := 25) rfl ?_
        refine pw_icmp_le hX (tgt := 31) dX3_entryOf_25 (q := 28) rfl (by decide) (fun h_25 => ?_) (fun h_25 => ?_)
        · obtain ⟨k, -, hk, rfl⟩ := inN_of (by decide) (inN_ok0 (by decide) h_19 (Int32.not_lt.mpr h_25))
          have hc : (hasN (w.1 0 0 0) (nI i) = true ∧ hasN 12 (nI j) = true ∧ inN 0 7 (nI k) = true) := ⟨h_8, h_15, by rw [inN_nI (by omega)]; exact decide_eq_true ⟨Nat.zero_le _, hk⟩⟩
          have hxk : ix (nI k) = k := ix_nI (by omega)
          refine pw_iload_n hX rfl dX3_entryOf_31 (q := 32) rfl ?_
          refine pw_iload_n hX rfl dX3_entryOf_32 (q := 33) rfl ?_
          refine pw_csI2 hX dX3_entryOf_33 (q := 36) rfl mi_X3_place ml_X3_99 ⟨rfl, rfl, by decide, by decide⟩ rfl (Nat.le_of_ble_eq_true rfl) (c_X3_place) ?_
          refine pw_istore hX (by decide) dX3_entryOf_36 (q := 38) rfl ?_
          refine pw_aload_n hX rfl dX3_entryOf_38 (q := 39) rfl ?_
          refine pw_getR hX 0 (by decide) fl_X3_10 rfl dX3_entryOf_39 (q := 42) rfl ?_
          refine pw_getVN hX (show 0 < 7 by decide) 8 (by decide) fn_X3_102 rfl dX3_entryOf_42 (q := 45) rfl ?_
          refine pw_iload hX rfl dX3_entryOf_45 (q := 47) rfl ?_
          refine pw_ialdV hX (show 0 < 7 by decide) 5 (by decide) (show _ < 84 by omega) dX3_entryOf_47 (q := 48) rfl ?_
          refine pw_ifN_ne hX (by first | omega | exact bV_0 hV | exact bV7 hV (by decide) (by omega) | exact bV84 hV (by decide) (by omega) | exact bV12 hV (by omega) | exact bV_1 hV | exact bV_2 hV | exact Nat.lt_trans (bits_lt _ 12) (by decide)) (tgt := 54) dX3_entryOf_48 (q := 51) rfl (by decide) (fun h_48 => ?_) (fun h_48 => ?_)
          · refine pw_aload_n hX rfl dX3_entryOf_54 (q := 55) rfl ?_
            refine pw_getR hX 0 (by decide) fl_X3_10 rfl dX3_entryOf_55 (q := 58) rfl ?_
            refine pw_iload hX rfl dX3_entryOf_58 (q := 60) rfl ?_
            refine pw_cvI1 hX dX3_entryOf_60 (q := 63) rfl mi_X2_isTomb ml_X3_105 (rcV (show 0 < 7 by decide)) ⟨rfl, rfl, by decide, by decide⟩ rfl (Nat.le_of_ble_eq_true rfl) (c_X2_isTomb h07 hV (by omega)).r ?_
            refine pw_istore hX (by decide) dX3_entryOf_63 (q := 65) rfl ?_
            refine pw_iload_n hX rfl dX3_entryOf_65 (q := 66) rfl ?_
            rcases (show k = 0 ∨ k = 1 ∨ k = 2 ∨ k = 3 ∨ k = 4 ∨ k = 5 ∨ k = 6 ∨ k = 7 by omega) with rfl | rfl | rfl | rfl | rfl | rfl | rfl | rfl
            · skip
              · refine pw_tabIn hX (tgt := 108) (off := 42) dX3_entryOf_66 (by decide) (by decide) (by decide) (by decide) ?_
                refine pw_iload hX rfl dX3_entryOf_108 (q := 110) rfl ?_
                refine pw_ifB_eq hX (tgt := 117) dX3_entryOf_110 (q := 113) rfl (by decide) (fun h_110 => ?_) (fun h_110 => ?_)
                · refine pw_iconst hX (k := 0) rfl (by decide) dX3_entryOf_117 (q := 118) rfl ?_
                  refine pw_ireturn hX dX3_entryOf_118 ⟨_, rfl, rfl⟩ ⟨congrArg (fun z => some (Value.int z)) ?_, ?_⟩
                  · rw [qEO, if_pos hc, hx, hxj, hxk, if_neg h_48, h_110]; rfl
                  · rfl
                · refine pw_iconst hX (k := 1) rfl (by decide) dX3_entryOf_113 (q := 114) rfl ?_
                  refine pw_goto hX (tgt := 118) dX3_entryOf_114 (by decide) ?_
                  refine pw_ireturn hX dX3_entryOf_118 ⟨_, rfl, rfl⟩ ⟨congrArg (fun z => some (Value.int z)) ?_, ?_⟩
                  · rw [qEO, if_pos hc, hx, hxj, hxk, if_neg h_48, h_110]; rfl
                  · rfl
            · skip
              · refine pw_tabIn hX (tgt := 119) (off := 53) dX3_entryOf_66 (by decide) (by decide) (by decide) (by decide) ?_
                refine pw_aload_n hX rfl dX3_entryOf_119 (q := 120) rfl ?_
                refine pw_getR hX 0 (by decide) fl_X3_10 rfl dX3_entryOf_120 (q := 123) rfl ?_
                refine pw_getVN hX (show 0 < 7 by decide) 8 (by decide) fn_X3_102 rfl dX3_entryOf_123 (q := 126) rfl ?_
                refine pw_iload hX rfl dX3_entryOf_126 (q := 128) rfl ?_
                refine pw_ialdV hX (show 0 < 7 by decide) 5 (by decide) (show _ < 84 by omega) dX3_entryOf_128 (q := 129) rfl ?_
                refine pw_bipush hX (k := 8) (by decide) dX3_entryOf_129 (q := 131) rfl ?_
                refine pw_idivN hX (by first | omega | exact bV_0 hV | exact bV7 hV (by decide) (by omega) | exact bV84 hV (by decide) (by omega) | exact bV12 hV (by omega) | exact bV_1 hV | exact bV_2 hV | exact Nat.lt_trans (bits_lt _ 12) (by decide)) (by decide) (by decide) dX3_entryOf_131 (q := 132) rfl ?_
                refine pw_ireturn hX dX3_entryOf_132 ⟨_, rfl, rfl⟩ ⟨congrArg (fun z => some (Value.int z)) ?_, ?_⟩
                · rw [qEO, if_pos hc, hx, hxj, hxk, if_neg h_48]; rfl
                · rfl
            · skip
              · refine pw_tabIn hX (tgt := 133) (off := 67) dX3_entryOf_66 (by decide) (by decide) (by decide) (by decide) ?_
                refine pw_aload_n hX rfl dX3_entryOf_133 (q := 134) rfl ?_
                refine pw_getR hX 0 (by decide) fl_X3_10 rfl dX3_entryOf_134 (q := 137) rfl ?_
                refine pw_iload hX rfl dX3_entryOf_137 (q := 139) rfl ?_
                refine pw_cvI1 hX dX3_entryOf_139 (q := 142) rfl mi_X2_author ml_X3_108 (rcV (show 0 < 7 by decide)) ⟨rfl, rfl, by decide, by decide⟩ rfl (Nat.le_of_ble_eq_true rfl) (c_X2_author h07 hV (by omega)).r ?_
                refine pw_ireturn hX dX3_entryOf_142 ⟨_, rfl, rfl⟩ ⟨congrArg (fun z => some (Value.int z)) ?_, ?_⟩
                · rw [qEO, if_pos hc, hx, hxj, hxk, if_neg h_48]; rfl
                · rfl
            · skip
              · refine pw_tabIn hX (tgt := 143) (off := 77) dX3_entryOf_66 (by decide) (by decide) (by decide) (by decide) ?_
                refine pw_iload hX rfl dX3_entryOf_143 (q := 145) rfl ?_
                refine pw_ifB_eq hX (tgt := 153) dX3_entryOf_145 (q := 148) rfl (by decide) (fun h_145 => ?_) (fun h_145 => ?_)
                · refine pw_aload_n hX rfl dX3_entryOf_153 (q := 154) rfl ?_
                  refine pw_getR hX 0 (by decide) fl_X3_10 rfl dX3_entryOf_154 (q := 157) rfl ?_
                  refine pw_getVN hX (show 0 < 7 by decide) 10 (by decide) fn_X3_111 rfl dX3_entryOf_157 (q := 160) rfl ?_
                  refine pw_iload hX rfl dX3_entryOf_160 (q := 162) rfl ?_
                  refine pw_ialdV hX (show 0 < 7 by decide) 7 (by decide) (show _ < 84 by omega) dX3_entryOf_162 (q := 163) rfl ?_
                  refine pw_ireturn hX dX3_entryOf_163 ⟨_, rfl, rfl⟩ ⟨congrArg (fun z => some (Value.int z)) ?_, ?_⟩
                  · rw [qEO, if_pos hc, hx, hxj, hxk, if_neg h_48, h_145]; rfl
                  · rfl
                · refine pw_ldc hX cn_X3_84 dX3_entryOf_148 (q := 150) rfl ?_
                  refine pw_goto hX (tgt := 163) dX3_entryOf_150 (by decide) ?_
                  refine pw_ireturn hX dX3_entryOf_163 ⟨_, rfl, rfl⟩ ⟨congrArg (fun z => some (Value.int z)) ?_, ?_⟩
                  · rw [qEO, if_pos hc, hx, hxj, hxk, if_neg h_48, h_145]; rfl
                  · rfl
            · skip
              · refine pw_tabIn hX (tgt := 164) (off := 98) dX3_entryOf_66 (by decide) (by decide) (by decide) (by decide) ?_
                refine pw_iload hX rfl dX3_entryOf_164 (q := 166) rfl ?_
                refine pw_ifB_eq hX (tgt := 174) dX3_entryOf_166 (q := 169) rfl (by decide) (fun h_166 => ?_) (fun h_166 => ?_)
                · refine pw_aload_n hX rfl dX3_entryOf_174 (q := 175) rfl ?_
                  refine pw_getR hX 0 (by decide) fl_X3_10 rfl dX3_entryOf_175 (q := 178) rfl ?_
                  refine pw_getVN hX (show 0 < 7 by decide) 9 (by decide) fn_X3_114 rfl dX3_entryOf_178 (q := 181) rfl ?_
                  refine pw_iload hX rfl dX3_entryOf_181 (q := 183) rfl ?_
                  refine pw_ialdV hX (show 0 < 7 by decide) 6 (by decide) (show _ < 84 by omega) dX3_entryOf_183 (q := 184) rfl ?_
                  refine pw_ireturn hX dX3_entryOf_184 ⟨_, rfl, rfl⟩ ⟨congrArg (fun z => some (Value.int z)) ?_, ?_⟩
                  · rw [qEO, if_pos hc, hx, hxj, hxk, if_neg h_48, h_166]; rfl
                  · rfl
                · refine pw_ldc hX cn_X3_84 dX3_entryOf_169 (q := 171) rfl ?_
                  refine pw_goto hX (tgt := 184) dX3_entryOf_171 (by decide) ?_
                  refine pw_ireturn hX dX3_entryOf_184 ⟨_, rfl, rfl⟩ ⟨congrArg (fun z => some (Value.int z)) ?_, ?_⟩
                  · rw [qEO, if_pos hc, hx, hxj, hxk, if_neg h_48, h_166]; rfl
                  · rfl
            · skip
              · refine pw_tabIn hX (tgt := 185) (off := 119) dX3_entryOf_66 (by decide) (by decide) (by decide) (by decide) ?_
                refine pw_iload hX rfl dX3_entryOf_185 (q := 187) rfl ?_
                refine pw_ifB_eq hX (tgt := 203) dX3_entryOf_187 (q := 190) rfl (by decide) (fun h_187 => ?_) (fun h_187 => ?_)
                · refine pw_ldc hX cn_X3_84 dX3_entryOf_203 (q := 205) rfl ?_
                  refine pw_ireturn hX dX3_entryOf_205 ⟨_, rfl, rfl⟩ ⟨congrArg (fun z => some (Value.int z)) ?_, ?_⟩
                  · rw [qEO, if_pos hc, hx, hxj, hxk, if_neg h_48, h_187]; rfl
                  · rfl
                · refine pw_aload_n hX rfl dX3_entryOf_190 (q := 191) rfl ?_
                  refine pw_getR hX 0 (by decide) fl_X3_10 rfl dX3_entryOf_191 (q := 194) rfl ?_
                  refine pw_getVN hX (show 0 < 7 by decide) 11 (by decide) fn_X3_117 rfl dX3_entryOf_194 (q := 197) rfl ?_
                  refine pw_iload hX rfl dX3_entryOf_197 (q := 199) rfl ?_
                  refine pw_ialdV hX (show 0 < 7 by decide) 8 (by decide) (show _ < 84 by omega) dX3_entryOf_199 (q := 200) rfl ?_
                  refine pw_goto hX (tgt := 205) dX3_entryOf_200 (by decide) ?_
                  refine pw_ireturn hX dX3_entryOf_205 ⟨_, rfl, rfl⟩ ⟨congrArg (fun z => some (Value.int z)) ?_, ?_⟩
                  · rw [qEO, if_pos hc, hx, hxj, hxk, if_neg h_48, h_187]; rfl
                  · rfl
            · skip
              · refine pw_tabIn hX (tgt := 206) (off := 140) dX3_entryOf_66 (by decide) (by decide) (by decide) (by decide) ?_
                refine pw_iload hX rfl dX3_entryOf_206 (q := 208) rfl ?_
                refine pw_ifB_eq hX (tgt := 224) dX3_entryOf_208 (q := 211) rfl (by decide) (fun h_208 => ?_) (fun h_208 => ?_)
                · refine pw_ldc hX cn_X3_84 dX3_entryOf_224 (q := 226) rfl ?_
                  refine pw_ireturn hX dX3_entryOf_226 ⟨_, rfl, rfl⟩ ⟨congrArg (fun z => some (Value.int z)) ?_, ?_⟩
                  · rw [qEO, if_pos hc, hx, hxj, hxk, if_neg h_48, h_208]; rfl
                  · rfl
                · refine pw_aload_n hX rfl dX3_entryOf_211 (q := 212) rfl ?_
                  refine pw_getR hX 0 (by decide) fl_X3_10 rfl dX3_entryOf_212 (q := 215) rfl ?_
                  refine pw_getVN hX (show 0 < 7 by decide) 12 (by decide) fn_X3_120 rfl dX3_entryOf_215 (q := 218) rfl ?_
                  refine pw_iload hX rfl dX3_entryOf_218 (q := 220) rfl ?_
                  refine pw_ialdV hX (show 0 < 7 by decide) 9 (by decide) (show _ < 84 by omega) dX3_entryOf_220 (q := 221) rfl ?_
                  refine pw_goto hX (tgt := 226) dX3_entryOf_221 (by decide) ?_
                  refine pw_ireturn hX dX3_entryOf_226 ⟨_, rfl, rfl⟩ ⟨congrArg (fun z => some (Value.int z)) ?_, ?_⟩
                  · rw [qEO, if_pos hc, hx, hxj, hxk, if_neg h_48, h_208]; rfl
                  · rfl
            · skip
              · refine pw_tabOut hX (tgt := 227) dX3_entryOf_66 (by decide) (by decide) ?_
                refine pw_iload hX rfl dX3_entryOf_227 (q := 229) rfl ?_
                refine pw_ifB_eq hX (tgt := 237) dX3_entryOf_229 (q := 232) rfl (by decide) (fun h_229 => ?_) (fun h_229 => ?_)
                · refine pw_aload_n hX rfl dX3_entryOf_237 (q := 238) rfl ?_
                  refine pw_getR hX 0 (by decide) fl_X3_10 rfl dX3_entryOf_238 (q := 241) rfl ?_
                  refine pw_iload_n hX rfl dX3_entryOf_241 (q := 242) rfl ?_
                  refine pw_iload_n hX rfl dX3_entryOf_242 (q := 243) rfl ?_
                  refine pw_cvI2 hX dX3_entryOf_243 (q := 246) rfl mi_X2_isDead ml_X3_123 (rcV (show 0 < 7 by decide)) ⟨rfl, rfl, by decide, by decide⟩ rfl (Nat.le_of_ble_eq_true rfl) (c_X2_isDead h07 hV (by omega) hj).r ?_
                  refine pw_ifB_eq hX (tgt := 253) dX3_entryOf_246 (q := 249) rfl (by decide) (fun h_246 => ?_) (fun h_246 => ?_)
                  · refine pw_iconst hX (k := 0) rfl (by decide) dX3_entryOf_253 (q := 254) rfl ?_
                    refine pw_ireturn hX dX3_entryOf_254 ⟨_, rfl, rfl⟩ ⟨congrArg (fun z => some (Value.int z)) ?_, ?_⟩
                    · rw [qEO, if_pos hc, hx, hxj, hxk, if_neg h_48, h_229]; first | rfl | (rw [h_246]; rfl)
                    · rfl
                  · refine pw_iconst hX (k := 1) rfl (by decide) dX3_entryOf_249 (q := 250) rfl ?_
                    refine pw_goto hX (tgt := 254) dX3_entryOf_250 (by decide) ?_
                    refine pw_ireturn hX dX3_entryOf_254 ⟨_, rfl, rfl⟩ ⟨congrArg (fun z => some (Value.int z)) ?_, ?_⟩
                    · rw [qEO, if_pos hc, hx, hxj, hxk, if_neg h_48, h_229]; first | rfl | (rw [h_246]; rfl)
                    · rfl
                · refine pw_ldc hX cn_X3_84 dX3_entryOf_232 (q := 234) rfl ?_
                  refine pw_goto hX (tgt := 254) dX3_entryOf_234 (by decide) ?_
                  refine pw_ireturn hX dX3_entryOf_254 ⟨_, rfl, rfl⟩ ⟨congrArg (fun z => some (Value.int z)) ?_, ?_⟩
                  · rw [qEO, if_pos hc, hx, hxj, hxk, if_neg h_48, h_229]; first | rfl | (rw [h_246]; rfl)
                  · rfl
          · refine pw_ldc hX cn_X3_84 dX3_entryOf_51 (q := 53) rfl ?_
            refine pw_ireturn hX dX3_entryOf_53 ⟨_, rfl, rfl⟩ ⟨congrArg (fun z => some (Value.int z)) ?_, ?_⟩
            · rw [qEO, if_pos hc, hx, hxj, if_pos h_48]
            · rfl
        · have hz : ¬ (hasN (w.1 0 0 0) (nI i) = true ∧ hasN 12 (nI j) = true ∧ inN 0 7 a = true) := fun z => by rw [inN_hi (by decide) (Int32.not_le.mp h_25)] at z; exact absurd z.2.2 (by decide)
          refine pw_ldc hX cn_X3_61 dX3_entryOf_28 (q := 30) rfl ?_
          refine pw_ireturn hX dX3_entryOf_30 ⟨_, rfl, rfl⟩ ⟨congrArg (fun z => some (Value.int z)) ?_, ?_⟩
          · rw [qEO, if_neg hz]
          · rfl
abbrev rm_X3_ghosts : Room := { frames := 4, cells := 0, slots := 0, locals := 98 }
set_option maxHeartbeats 800000 in
set_option maxRecDepth 20000 in
theorem c_X3_ghosts {l : Launch} {g : Geo} {w : WD} {v u a : Int32} (hP : bP (w.1 0)) (ht : w.1 0 0 1 ≤ 100000) : CtI l g yX3_ghosts cX3_ghosts 4 (some .int) rm_X3_ghosts [.ref (g_ad g 10 0), .int v, .int u, .int a] (w) (qGh (w.1 0) (w.1 1) v u a) (qGhW w v u a) := by
  refine ct_of mi_X3_ghosts.2.2.2.2.2 ⟨rfl, rfl⟩ (List.forall_mem_cons.mpr ⟨rfl, List.forall_mem_cons.mpr ⟨rfl, List.forall_mem_cons.mpr ⟨rfl, List.forall_mem_cons.mpr ⟨rfl, fun _ h => absurd h List.not_mem_nil⟩⟩⟩⟩) (Nat.le_of_ble_eq_true rfl) (fun P hX => ?_)
  replace hX : Gd l g RX3 cX3_ghosts rm_X3_ghosts 4 (some .int) _ _ P := hX
  show P (w) 0 [some (.ref (g_ad g 10 0)), some (.int v), some (.int u), some (.int a)] []
  have hV := hP.1
  refine pw_aload_n hX rfl dX3_ghosts_0 (q := 1) rfl ?_
  refine pw_getR hX 0 (by decide) fl_X3_10 rfl dX3_ghosts_1 (q := 4) rfl ?_
  refine pw_iload_n hX rfl dX3_ghosts_4 (q := 5) rfl ?_
  refine pw_iload_n hX rfl dX3_ghosts_5 (q := 6) rfl ?_
  refine pw_cvI2 hX dX3_ghosts_6 (q := 9) rfl mi_X2_areTwo ml_X3_139 (rcV (show 0 < 7 by decide)) ⟨rfl, rfl, by decide, by decide⟩ rfl (Nat.le_of_ble_eq_true rfl) (c_X2_areTwo h07 hV).r ?_
  refine pw_ifB_eq hX (tgt := 22) dX3_ghosts_9 (q := 12) rfl (by decide) (fun h_9 => ?_) (fun h_9 => ?_)
  · have hz : ¬ (kTwo (w.1 0) v u = true ∧ inN 0 60 a = true) := fun z => by rw [h_9] at z; exact absurd z.1 (by decide)
    refine pw_ldc hX cn_X3_61 dX3_ghosts_22 (q := 24) rfl ?_
    refine pw_ireturn hX dX3_ghosts_24 ⟨_, rfl, rfl⟩ ⟨congrArg (fun z => some (Value.int z)) ?_, ?_⟩
    · rw [qGh, if_neg hz]
    · rw [qGhW, if_neg hz]
  · obtain ⟨i, j, hi, hj, hij, rfl, rfl, k1, k2⟩ := kTwo_of (bV_0 hV) h_9
    have h7 := hV.2.2.2.1
    have hx : ix (nI i) = i := ix_nI (by omega)
    have hxj : ix (nI j) = j := ix_nI (by omega)
    refine pw_iload_n hX rfl dX3_ghosts_12 (q := 13) rfl ?_
    refine pw_if_lt hX (tgt := 22) dX3_ghosts_13 (q := 16) rfl (by decide) (fun h_13 => ?_) (fun h_13 => ?_)
    · have hz : ¬ (kTwo (w.1 0) (nI i) (nI j) = true ∧ inN 0 60 a = true) := fun z => by rw [inN_lo0 h_13] at z; exact absurd z.2 (by decide)
      refine pw_ldc hX cn_X3_61 dX3_ghosts_22 (q := 24) rfl ?_
      refine pw_ireturn hX dX3_ghosts_24 ⟨_, rfl, rfl⟩ ⟨congrArg (fun z => some (Value.int z)) ?_, ?_⟩
      · rw [qGh, if_neg hz]
      · rw [qGhW, if_neg hz]
    · refine pw_iload_n hX rfl dX3_ghosts_16 (q := 17) rfl ?_
      refine pw_bipush hX (k := 60) (by decide) dX3_ghosts_17 (q := 19) rfl ?_
      refine pw_icmp_le hX (tgt := 25) dX3_ghosts_19 (q := 22) rfl (by decide) (fun h_19 => ?_) (fun h_19 => ?_)
      · obtain ⟨k, -, hk, rfl⟩ := inN_of (by decide) (inN_ok0 (by decide) h_13 (Int32.not_lt.mpr h_19))
        have hc : (kTwo (w.1 0) (nI i) (nI j) = true ∧ inN 0 60 (nI k) = true) := ⟨h_9, by rw [inN_nI (by omega)]; exact decide_eq_true ⟨Nat.zero_le _, hk⟩⟩
        have hxk : ix (nI k) = k := ix_nI (by omega)
        have hPU := bP_Cp (w.1 1) hP
        have htk : kCp (w.1 1) (w.1 0) 0 1 + k < 2 ^ 30 := by show w.1 0 0 1 + k < 2 ^ 30; omega
        have hbU : bV (qGU (w.1 0) (w.1 1) i j k) := bV_Tk (by split; exact hPU.1; exact (bP_Pass hPU htk).1) (by omega) (by omega)
        refine pw_aload_n hX rfl dX3_ghosts_25 (q := 26) rfl ?_
        refine pw_getR hX 0 (by decide) fl_X3_10 rfl dX3_ghosts_26 (q := 29) rfl ?_
        refine pw_getVN hX (show 0 < 7 by decide) 4 (by decide) fn_X3_62 rfl dX3_ghosts_29 (q := 32) rfl ?_
        refine pw_iload_n hX rfl dX3_ghosts_32 (q := 33) rfl ?_
        refine pw_ialdV hX (show 0 < 7 by decide) 1 (by decide) (show _ < 7 by omega) dX3_ghosts_33 (q := 34) rfl ?_
        refine pw_iconst hX (k := 2) rfl (by decide) dX3_ghosts_34 (q := 35) rfl ?_
        refine pw_icmpN_eq hX (by first | omega | exact bV7 hV (by decide) (by omega)) (by first | omega | exact bV7 hV (by decide) (by omega)) (tgt := 51) dX3_ghosts_35 (q := 38) rfl (by decide) (fun h_35 => ?_) (fun h_35 => ?_)
        · refine pw_ldc hX cn_X3_142 dX3_ghosts_51 (q := 53) rfl ?_
          refine pw_ireturn hX dX3_ghosts_53 ⟨_, rfl, rfl⟩ ⟨congrArg (fun z => some (Value.int z)) ?_, ?_⟩
          · rw [qGh, if_pos hc, hx, hxj, if_pos (by first | exact Or.inl h_35 | exact Or.inr h_48)]
          · rw [qGhW, if_pos hc, hx, hxj, if_pos (by first | exact Or.inl h_35 | exact Or.inr h_48)]
        · refine pw_aload_n hX rfl dX3_ghosts_38 (q := 39) rfl ?_
          refine pw_getR hX 0 (by decide) fl_X3_10 rfl dX3_ghosts_39 (q := 42) rfl ?_
          refine pw_getVN hX (show 0 < 7 by decide) 4 (by decide) fn_X3_62 rfl dX3_ghosts_42 (q := 45) rfl ?_
          refine pw_iload_n hX rfl dX3_ghosts_45 (q := 46) rfl ?_
          refine pw_ialdV hX (show 0 < 7 by decide) 1 (by decide) (show _ < 7 by omega) dX3_ghosts_46 (q := 47) rfl ?_
          refine pw_iconst hX (k := 2) rfl (by decide) dX3_ghosts_47 (q := 48) rfl ?_
          refine pw_icmpN_ne hX (by first | omega | exact bV7 hV (by decide) (by omega)) (by first | omega | exact bV7 hV (by decide) (by omega)) (tgt := 54) dX3_ghosts_48 (q := 51) rfl (by decide) (fun h_48 => ?_) (fun h_48 => ?_)
          · refine pw_aload_n hX rfl dX3_ghosts_54 (q := 55) rfl ?_
            refine pw_getR hX 1 (by decide) fl_X3_16 rfl dX3_ghosts_55 (q := 58) rfl ?_
            refine pw_aload_n hX rfl dX3_ghosts_58 (q := 59) rfl ?_
            refine pw_getR hX 0 (by decide) fl_X3_10 rfl dX3_ghosts_59 (q := 62) rfl ?_
            refine pw_cvV1 hX dX3_ghosts_62 (q := 65) rfl mi_X2_copyFrom ml_X3_143 (rcV (show 1 < 7 by decide)) ⟨rfl, rfl, by decide, by decide⟩ rfl (Nat.le_of_ble_eq_true rfl) (c_X2_copyFrom h17 h07 (by decide)).at ?_
            refine pw_iload_n hX rfl dX3_ghosts_65 (q := 66) rfl ?_
            refine pw_ifN_le hX (by first | omega | exact bV7 hV (by decide) (by omega)) (tgt := 78) dX3_ghosts_66 (q := 69) rfl (by decide) (fun h_66 => ?_) (fun h_66 => ?_)
            · have hU : (kTk (kCp (w.1 1) (w.1 0)) i j).1 = (qGU (w.1 0) (w.1 1) i j k) := by unfold qGU; rw [if_pos h_66]
              refine pw_aload_n hX rfl dX3_ghosts_78 (q := 79) rfl ?_
              refine pw_getR hX 1 (by decide) fl_X3_16 rfl dX3_ghosts_79 (q := 82) rfl ?_
              refine pw_iload_n hX rfl dX3_ghosts_82 (q := 83) rfl ?_
              refine pw_iload_n hX rfl dX3_ghosts_83 (q := 84) rfl ?_
              refine pw_cvI2 hX dX3_ghosts_84 (q := 87) rfl mi_X2_talk ml_X3_149 (rcV (show 1 < 7 by decide)) ⟨rfl, rfl, by decide, by decide⟩ rfl (Nat.le_of_ble_eq_true rfl) (c_X2_talk h17 hPU.1 (by omega) (by omega)) ?_
              rw [hU]
              refine pw_pop hX rfl dX3_ghosts_87 (q := 88) rfl ?_
              refine pw_aload_n hX rfl dX3_ghosts_88 (q := 89) rfl ?_
              refine pw_getR hX 1 (by decide) fl_X3_16 rfl dX3_ghosts_89 (q := 92) rfl ?_
              refine pw_cvI0 hX dX3_ghosts_92 (q := 95) rfl mi_X2_allGhosts ml_X3_152 (rcV (show 1 < 7 by decide)) ⟨rfl, rfl, by decide, by decide⟩ rfl (Nat.le_of_ble_eq_true rfl) (c_X2_allGhosts h17 hbU) ?_
              refine pw_aload_n hX rfl dX3_ghosts_95 (q := 96) rfl ?_
              refine pw_getR hX 0 (by decide) fl_X3_10 rfl dX3_ghosts_96 (q := 99) rfl ?_
              refine pw_cvI0 hX dX3_ghosts_99 (q := 102) rfl mi_X2_allGhosts ml_X3_152 (rcV (show 0 < 7 by decide)) ⟨rfl, rfl, by decide, by decide⟩ rfl (Nat.le_of_ble_eq_true rfl) (c_X2_allGhosts h07 hV).t ?_
              refine pw_isub hX dX3_ghosts_102 (q := 103) rfl ?_
              refine pw_ireturn hX dX3_ghosts_103 ⟨_, rfl, rfl⟩ ⟨congrArg (fun z => some (Value.int z)) ?_, ?_⟩
              · rw [qGh, if_pos hc, hx, hxj, hxk, if_neg (fun z => z.elim h_35 h_48)]
              · rw [qGhW, if_pos hc, hx, hxj, hxk, if_neg (fun z => z.elim h_35 h_48)]
            · refine pw_aload_n hX rfl dX3_ghosts_69 (q := 70) rfl ?_
              refine pw_getR hX 1 (by decide) fl_X3_16 rfl dX3_ghosts_70 (q := 73) rfl ?_
              refine pw_iload_n hX rfl dX3_ghosts_73 (q := 74) rfl ?_
              refine pw_cvI1 hX dX3_ghosts_74 (q := 77) rfl mi_X2_pass ml_X3_146 (rcV (show 1 < 7 by decide)) ⟨rfl, rfl, by decide, by decide⟩ rfl (Nat.le_of_ble_eq_true rfl) (c_X2_pass h17 hPU htk) ?_
              refine pw_pop hX rfl dX3_ghosts_77 (q := 78) rfl ?_
              have hU : (kTk (kPass (kCp (w.1 1) (w.1 0)) k).1 i j).1 = (qGU (w.1 0) (w.1 1) i j k) := by unfold qGU; rw [if_neg (by omega)]
              refine pw_aload_n hX rfl dX3_ghosts_78 (q := 79) rfl ?_
              refine pw_getR hX 1 (by decide) fl_X3_16 rfl dX3_ghosts_79 (q := 82) rfl ?_
              refine pw_iload_n hX rfl dX3_ghosts_82 (q := 83) rfl ?_
              refine pw_iload_n hX rfl dX3_ghosts_83 (q := 84) rfl ?_
              refine pw_cvI2 hX dX3_ghosts_84 (q := 87) rfl mi_X2_talk ml_X3_149 (rcV (show 1 < 7 by decide)) ⟨rfl, rfl, by decide, by decide⟩ rfl (Nat.le_of_ble_eq_true rfl) (c_X2_talk h17 (bP_Pass hPU htk).1 (by omega) (by omega)) ?_
              rw [hU]
              refine pw_pop hX rfl dX3_ghosts_87 (q := 88) rfl ?_
              refine pw_aload_n hX rfl dX3_ghosts_88 (q := 89) rfl ?_
              refine pw_getR hX 1 (by decide) fl_X3_16 rfl dX3_ghosts_89 (q := 92) rfl ?_
              refine pw_cvI0 hX dX3_ghosts_92 (q := 95) rfl mi_X2_allGhosts ml_X3_152 (rcV (show 1 < 7 by decide)) ⟨rfl, rfl, by decide, by decide⟩ rfl (Nat.le_of_ble_eq_true rfl) (c_X2_allGhosts h17 hbU) ?_
              refine pw_aload_n hX rfl dX3_ghosts_95 (q := 96) rfl ?_
              refine pw_getR hX 0 (by decide) fl_X3_10 rfl dX3_ghosts_96 (q := 99) rfl ?_
              refine pw_cvI0 hX dX3_ghosts_99 (q := 102) rfl mi_X2_allGhosts ml_X3_152 (rcV (show 0 < 7 by decide)) ⟨rfl, rfl, by decide, by decide⟩ rfl (Nat.le_of_ble_eq_true rfl) (c_X2_allGhosts h07 hV).t ?_
              refine pw_isub hX dX3_ghosts_102 (q := 103) rfl ?_
              refine pw_ireturn hX dX3_ghosts_103 ⟨_, rfl, rfl⟩ ⟨congrArg (fun z => some (Value.int z)) ?_, ?_⟩
              · rw [qGh, if_pos hc, hx, hxj, hxk, if_neg (fun z => z.elim h_35 h_48)]
              · rw [qGhW, if_pos hc, hx, hxj, hxk, if_neg (fun z => z.elim h_35 h_48)]
          · refine pw_ldc hX cn_X3_142 dX3_ghosts_51 (q := 53) rfl ?_
            refine pw_ireturn hX dX3_ghosts_53 ⟨_, rfl, rfl⟩ ⟨congrArg (fun z => some (Value.int z)) ?_, ?_⟩
            · rw [qGh, if_pos hc, hx, hxj, if_pos (by first | exact Or.inl h_35 | exact Or.inr h_48)]
            · rw [qGhW, if_pos hc, hx, hxj, if_pos (by first | exact Or.inl h_35 | exact Or.inr h_48)]
      · have hz : ¬ (kTwo (w.1 0) (nI i) (nI j) = true ∧ inN 0 60 a = true) := fun z => by rw [inN_hi (by decide) (Int32.not_le.mp h_19)] at z; exact absurd z.2 (by decide)
        refine pw_ldc hX cn_X3_61 dX3_ghosts_22 (q := 24) rfl ?_
        refine pw_ireturn hX dX3_ghosts_24 ⟨_, rfl, rfl⟩ ⟨congrArg (fun z => some (Value.int z)) ?_, ?_⟩
        · rw [qGh, if_neg hz]
        · rw [qGhW, if_neg hz]
