/-! the reference's own steps, over its row -/
def mSh (V : Nat → Nat → Nat) : Nat → Nat → Nat := vA (vA V 2 (cp 2439 (fun j => V 2 (j + 813)) (V 2))) 0 (upN (V 0) 4 3)
def mPu (V : Nat → Nat → Nat) : Nat → Nat → Nat := vA (vA V 2 (fun j => if 813 * V 0 4 ≤ j ∧ j < 813 * V 0 4 + 813 then V 3 (j - 813 * V 0 4) else V 2 j)) 0 (upN (V 0) 4 (V 0 4 + 1))
def mPush (V : Nat → Nat → Nat) : Nat → Nat → Nat := if V 0 4 = 4 then mPu (mSh V) else mPu V
def mActed (V : Nat → Nat → Nat) (r : Int32) : Nat → Nat → Nat := if -1000001 < r then mPush V else V
def mVill (S : Nat → Nat) : Nat → Nat := upN (fun j => if 5 + 4 * S 0 ≤ j ∧ j < 5 + 4 * S 0 + 4 then 0 else S j) 0 (S 0 + 1)
def mSleeps (S : Nat → Nat) (v : Int32) : (Nat → Nat) × Int32 := if hasN (S 0) v = true then (if S (5 + 4 * ix v + 0) = 0 then (upN (upN S (5 + 4 * ix v + 0) 1) (5 + 4 * ix v + 3) (S 1), nI (mMany (upN (upN S (5 + 4 * ix v + 0) 1) (5 + 4 * ix v + 3) (S 1)) 0)) else (S, -1000002)) else (S, -1000001)
def mWakes (S : Nat → Nat) (v : Int32) : (Nat → Nat) × Int32 := if hasN (S 0) v = true then (if S (5 + 4 * ix v + 0) = 1 then (upN S (5 + 4 * ix v + 0) 0, nI (S 1) - nI (S (5 + 4 * ix v + 3))) else (S, -1000002)) else (S, -1000001)
def mLeft (S : Nat → Nat) (v : Nat) : Nat → Nat := fun j => if (225 + 84 * v ≤ j ∧ j < 225 + 84 * v + 84 ∧ (j - 225 - 84 * v) % 7 = 0) then 0 else upN S (5 + 4 * v + 0) 2 j
theorem bS_upN {S : Nat → Nat} (hB : bS S) {i x : Nat} (h0 : i ≠ 0) (hx : x < 2 ^ 30) : bS (upN S i x) := by
  obtain ⟨h1, h2, h3, h4, h5⟩ := hB
  refine ⟨fun j a b => ?_, fun v k a b c => ?_, ?_, ?_, ?_⟩
  · unfold upN; split
    · exact hx
    · exact h1 j a b
  · unfold upN; split
    · exact hx
    · exact h2 v k a b c
  · rw [upN_n _ _ (Ne.symm h0)]; exact h3
  · unfold upN; split
    · exact hx
    · exact h4
  · unfold upN; split
    · exact hx
    · exact h5
abbrev rm_X4_keeps : Room := { frames := 0, cells := 0, slots := 0, locals := 0 }
set_option maxHeartbeats 4000000 in
set_option maxRecDepth 20000 in
theorem c_X4_keeps {l : Launch} {g : Geo} {w : WD} {V : Nat → Nat → Nat} {S : Nat → Nat}  : CtV l g yX4_keeps cX4_keeps 2 none rm_X4_keeps [.ref (g_ad g 9 0)] (mW w V S) (mW w (vA V 3 S) S) := by
  refine ct_of mi_X4_keeps.2.2.2.2.2 ⟨rfl, rfl⟩ (List.forall_mem_cons.mpr ⟨rfl, fun _ h => absurd h List.not_mem_nil⟩) (Nat.le_of_ble_eq_true rfl) (fun P hX => ?_)
  replace hX : Gd l g RX4 cX4_keeps rm_X4_keeps 2 none _ _ P := hX
  show P (mW w V S) 0 [some (.ref (g_ad g 9 0)), none] []
  refine pw_iconst hX (k := 0) rfl (by decide) dX4_keeps_0 (q := 1) rfl ?_
  refine pw_istore_n hX (by decide) dX4_keeps_1 (q := 2) rfl ?_
  suffices L : ∀ i, i ≤ 813 → P (mW w (vA V 3 (cp i S (V 3))) S) 2 [some (.ref (g_ad g 9 0)), some (.int (nI i))] [] by have h9 := L 0 (Nat.zero_le _); simp only [cp_0, vA_id] at h9; exact h9
  refine loopUp (fun i hi ih => ?_)
  refine pw_iload_n hX rfl dX4_keeps_2 (q := 3) rfl ?_
  refine pw_sipush hX (k := 813) (by decide) dX4_keeps_3 (q := 6) rfl ?_
  refine pw_icmpN_ge hX (by first | omega) (by first | omega) (tgt := 27) dX4_keeps_6 (q := 9) rfl (by decide) (fun h_6 => ?_) (fun h_6 => ?_)
  · refine pw_weq hX (w' := mW w (vA V 3 S) S) (weq_mW (fun _ _ => rfl) (fun _ _ => rfl) (fun k j h0 h1 hj => by
      by_cases hk : k = 3
      · subst hk; rw [vA_s, vA_s]; simp only [cp, if_pos (show j < i by have : lnM 3 = 813 := rfl; omega)]
      · rw [vA_n _ _ hk, vA_n _ _ hk])) ?_
    refine pw_return hX dX4_keeps_27 rfl ⟨rfl, ?_⟩
    rfl
  · refine pw_aload_n hX rfl dX4_keeps_9 (q := 10) rfl ?_
    refine pw_getMS hX 2 (by decide) fl_X4_16 rfl dX4_keeps_10 (q := 13) rfl ?_
    refine pw_iload_n hX rfl dX4_keeps_13 (q := 14) rfl ?_
    refine pw_aload_n hX rfl dX4_keeps_14 (q := 15) rfl ?_
    refine pw_getMS hX 0 (by decide) fl_X4_7 rfl dX4_keeps_15 (q := 18) rfl ?_
    refine pw_iload_n hX rfl dX4_keeps_18 (q := 19) rfl ?_
    refine pw_ialdS hX (by omega) dX4_keeps_19 (q := 20) rfl ?_
    refine pw_iastMS hX 3 (by decide) (show _ < 813 by omega) dX4_keeps_20 (q := 21) rfl ?_
    refine pw_iinc hX rfl (by decide) (inc1 _) dX4_keeps_21 (q := 24) rfl ?_
    refine pw_goto hX (tgt := 2) dX4_keeps_24 (by decide) ?_
    exact pw_eq (by simp only [vU, vA_s, vA_vA, cp_s]) rfl rfl (ih (by omega))
abbrev rm_X4_puts : Room := { frames := 0, cells := 0, slots := 0, locals := 0 }
set_option maxHeartbeats 4000000 in
set_option maxRecDepth 20000 in
theorem c_X4_puts {l : Launch} {g : Geo} {w : WD} {V : Nat → Nat → Nat} {S : Nat → Nat}  : CtV l g yX4_puts cX4_puts 2 none rm_X4_puts [.ref (g_ad g 9 0)] (mW w V S) (mW w (vA V 4 S) S) := by
  refine ct_of mi_X4_puts.2.2.2.2.2 ⟨rfl, rfl⟩ (List.forall_mem_cons.mpr ⟨rfl, fun _ h => absurd h List.not_mem_nil⟩) (Nat.le_of_ble_eq_true rfl) (fun P hX => ?_)
  replace hX : Gd l g RX4 cX4_puts rm_X4_puts 2 none _ _ P := hX
  show P (mW w V S) 0 [some (.ref (g_ad g 9 0)), none] []
  refine pw_iconst hX (k := 0) rfl (by decide) dX4_puts_0 (q := 1) rfl ?_
  refine pw_istore_n hX (by decide) dX4_puts_1 (q := 2) rfl ?_
  suffices L : ∀ i, i ≤ 813 → P (mW w (vA V 4 (cp i S (V 4))) S) 2 [some (.ref (g_ad g 9 0)), some (.int (nI i))] [] by have h9 := L 0 (Nat.zero_le _); simp only [cp_0, vA_id] at h9; exact h9
  refine loopUp (fun i hi ih => ?_)
  refine pw_iload_n hX rfl dX4_puts_2 (q := 3) rfl ?_
  refine pw_sipush hX (k := 813) (by decide) dX4_puts_3 (q := 6) rfl ?_
  refine pw_icmpN_ge hX (by first | omega) (by first | omega) (tgt := 27) dX4_puts_6 (q := 9) rfl (by decide) (fun h_6 => ?_) (fun h_6 => ?_)
  · refine pw_weq hX (w' := mW w (vA V 4 S) S) (weq_mW (fun _ _ => rfl) (fun _ _ => rfl) (fun k j h0 h1 hj => by
      by_cases hk : k = 4
      · subst hk; rw [vA_s, vA_s]; simp only [cp, if_pos (show j < i by have : lnM 4 = 813 := rfl; omega)]
      · rw [vA_n _ _ hk, vA_n _ _ hk])) ?_
    refine pw_return hX dX4_puts_27 rfl ⟨rfl, ?_⟩
    rfl
  · refine pw_aload_n hX rfl dX4_puts_9 (q := 10) rfl ?_
    refine pw_getMS hX 3 (by decide) fl_X4_19 rfl dX4_puts_10 (q := 13) rfl ?_
    refine pw_iload_n hX rfl dX4_puts_13 (q := 14) rfl ?_
    refine pw_aload_n hX rfl dX4_puts_14 (q := 15) rfl ?_
    refine pw_getMS hX 0 (by decide) fl_X4_7 rfl dX4_puts_15 (q := 18) rfl ?_
    refine pw_iload_n hX rfl dX4_puts_18 (q := 19) rfl ?_
    refine pw_ialdS hX (by omega) dX4_puts_19 (q := 20) rfl ?_
    refine pw_iastMS hX 4 (by decide) (show _ < 813 by omega) dX4_puts_20 (q := 21) rfl ?_
    refine pw_iinc hX rfl (by decide) (inc1 _) dX4_puts_21 (q := 24) rfl ?_
    refine pw_goto hX (tgt := 2) dX4_puts_24 (by decide) ?_
    exact pw_eq (by simp only [vU, vA_s, vA_vA, cp_s]) rfl rfl (ih (by omega))
abbrev rm_X4_restores : Room := { frames := 0, cells := 0, slots := 0, locals := 0 }
set_option maxHeartbeats 4000000 in
set_option maxRecDepth 20000 in
theorem c_X4_restores {l : Launch} {g : Geo} {w : WD} {V : Nat → Nat → Nat} {S : Nat → Nat}  : CtV l g yX4_restores cX4_restores 2 none rm_X4_restores [.ref (g_ad g 9 0)] (mW w V S) (mW w V (V 4)) := by
  refine ct_of mi_X4_restores.2.2.2.2.2 ⟨rfl, rfl⟩ (List.forall_mem_cons.mpr ⟨rfl, fun _ h => absurd h List.not_mem_nil⟩) (Nat.le_of_ble_eq_true rfl) (fun P hX => ?_)
  replace hX : Gd l g RX4 cX4_restores rm_X4_restores 2 none _ _ P := hX
  show P (mW w V S) 0 [some (.ref (g_ad g 9 0)), none] []
  refine pw_iconst hX (k := 0) rfl (by decide) dX4_restores_0 (q := 1) rfl ?_
  refine pw_istore_n hX (by decide) dX4_restores_1 (q := 2) rfl ?_
  suffices L : ∀ i, i ≤ 813 → P (mW w V (cp i (V 4) S)) 2 [some (.ref (g_ad g 9 0)), some (.int (nI i))] [] by have h9 := L 0 (Nat.zero_le _); simp only [cp_0] at h9; exact h9
  refine loopUp (fun i hi ih => ?_)
  refine pw_iload_n hX rfl dX4_restores_2 (q := 3) rfl ?_
  refine pw_sipush hX (k := 813) (by decide) dX4_restores_3 (q := 6) rfl ?_
  refine pw_icmpN_ge hX (by first | omega) (by first | omega) (tgt := 27) dX4_restores_6 (q := 9) rfl (by decide) (fun h_6 => ?_) (fun h_6 => ?_)
  · refine pw_weq hX (w' := mW w V (V 4)) (weq_mW (fun j hj => by simp only [cp, if_pos (show j < i by omega)]) (fun _ _ => rfl) (fun _ _ _ _ _ => rfl)) ?_
    refine pw_return hX dX4_restores_27 rfl ⟨rfl, ?_⟩
    rfl
  · refine pw_aload_n hX rfl dX4_restores_9 (q := 10) rfl ?_
    refine pw_getMS hX 0 (by decide) fl_X4_7 rfl dX4_restores_10 (q := 13) rfl ?_
    refine pw_iload_n hX rfl dX4_restores_13 (q := 14) rfl ?_
    refine pw_aload_n hX rfl dX4_restores_14 (q := 15) rfl ?_
    refine pw_getMS hX 3 (by decide) fl_X4_19 rfl dX4_restores_15 (q := 18) rfl ?_
    refine pw_iload_n hX rfl dX4_restores_18 (q := 19) rfl ?_
    refine pw_ialdMS hX 4 (by decide) (show _ < 813 by omega) dX4_restores_19 (q := 20) rfl ?_
    refine pw_iastS hX (by omega) dX4_restores_20 (q := 21) rfl ?_
    refine pw_iinc hX rfl (by decide) (inc1 _) dX4_restores_21 (q := 24) rfl ?_
    refine pw_goto hX (tgt := 2) dX4_restores_24 (by decide) ?_
    exact pw_eq (by rw [← cp_s]) rfl rfl (ih (by omega))
abbrev rm_X4_acted : Room := { frames := 0, cells := 0, slots := 0, locals := 0 }
set_option maxHeartbeats 4000000 in
set_option maxRecDepth 20000 in
theorem c_X4_acted {l : Launch} {g : Geo} {w : WD} {V : Nat → Nat → Nat} {S : Nat → Nat} {r : Int32} (h4 : V 0 4 ≤ 4) : CtI l g yX4_acted cX4_acted 3 (some .int) rm_X4_acted [.ref (g_ad g 9 0), .int r] (mW w V S) (r) (mW w (mActed V r) S) := by
  refine ct_of mi_X4_acted.2.2.2.2.2 ⟨rfl, rfl⟩ (List.forall_mem_cons.mpr ⟨rfl, List.forall_mem_cons.mpr ⟨rfl, fun _ h => absurd h List.not_mem_nil⟩⟩) (Nat.le_of_ble_eq_true rfl) (fun P hX => ?_)
  replace hX : Gd l g RX4 cX4_acted rm_X4_acted 3 (some .int) _ _ P := hX
  show P (mW w V S) 0 [some (.ref (g_ad g 9 0)), some (.int r), none] []
  refine pw_iload_n hX rfl dX4_acted_0 (q := 1) rfl ?_
  refine pw_ldc hX cn_X4_40 dX4_acted_1 (q := 3) rfl ?_
  refine pw_icmp_le hX (tgt := 101) dX4_acted_3 (q := 6) rfl (by decide) (fun h_3 => ?_) (fun h_3 => ?_)
  · refine pw_iload_n hX rfl dX4_acted_101 (q := 102) rfl ?_
    refine pw_ireturn hX dX4_acted_102 ⟨_, rfl, rfl⟩ ⟨congrArg (fun z => some (Value.int z)) ?_, ?_⟩
    · rfl
    · first | (rw [hA]; rfl) | (rw [show mActed V r = V from if_neg (fun z => by first | exact absurd z (Int32.not_lt.mpr h_3) | exact absurd (Int32.lt_of_lt_of_le z h_3) (Int32.lt_irrefl _))])
  · have h_c : -1000001 < r := Int32.not_le.mp h_3
    refine jn (A := ∀ V1 : Nat → Nat → Nat, V1 0 4 ≤ 3 → mActed V r = mPu V1 → P (mW w V1 S) 55 [some (.ref (g_ad g 9 0)), some (.int r), none] []) ?_ (fun J6 => ?_)
    · intro V1 hV1 hA
      refine pw_iconst hX (k := 0) rfl (by decide) dX4_acted_55 (q := 56) rfl ?_
      refine pw_istore_n hX (by decide) dX4_acted_56 (q := 57) rfl ?_
      suffices L : ∀ i, i ≤ 813 → P (mW w (vA V1 2 (fun j => if 813 * V1 0 4 ≤ j ∧ j < 813 * V1 0 4 + i then V1 3 (j - 813 * V1 0 4) else V1 2 j)) S) 57 [some (.ref (g_ad g 9 0)), some (.int r), some (.int (nI i))] [] by
        refine pw_eq ?_ rfl rfl (L 0 (Nat.zero_le _))
        rw [show (fun j => if 813 * V1 0 4 ≤ j ∧ j < 813 * V1 0 4 + 0 then V1 3 (j - 813 * V1 0 4) else V1 2 j) = V1 2 from funext (fun j => if_neg (by omega)), vA_id]
      refine loopUp (fun i hi ih => ?_)
      refine pw_iload_n hX rfl dX4_acted_57 (q := 58) rfl ?_
      refine pw_sipush hX (k := 813) (by decide) dX4_acted_58 (q := 61) rfl ?_
      refine pw_icmpN_ge hX (by omega) (by omega) (tgt := 91) dX4_acted_61 (q := 64) rfl (by decide) (fun h_61 => ?_) (fun h_61 => ?_)
      · have e57 : i = 813 := by omega
        subst e57
        refine pw_aload_n hX rfl dX4_acted_91 (q := 92) rfl ?_
        refine pw_dup hX rfl dX4_acted_92 (q := 93) rfl ?_
        refine pw_getMS hX 4 (by decide) fl_X4_41 rfl dX4_acted_93 (q := 96) rfl ?_
        refine pw_iconst hX (k := 1) rfl (by decide) dX4_acted_96 (q := 97) rfl ?_
        refine pw_iaddN hX dX4_acted_97 (q := 98) rfl ?_
        refine pw_putMS hX 4 (by decide) fl_X4_41 dX4_acted_98 (q := 101) rfl ?_
        refine pw_iload_n hX rfl dX4_acted_101 (q := 102) rfl ?_
        refine pw_ireturn hX dX4_acted_102 ⟨_, rfl, rfl⟩ ⟨congrArg (fun z => some (Value.int z)) ?_, ?_⟩
        · rfl
        · first | (rw [hA]; rfl) | (rw [show mActed V r = V from if_neg (fun z => by first | exact absurd z (Int32.not_lt.mpr h_3) | exact absurd (Int32.lt_of_lt_of_le z h_3) (Int32.lt_irrefl _))])
      · refine pw_aload_n hX rfl dX4_acted_64 (q := 65) rfl ?_
        refine pw_getMS hX 1 (by decide) fl_X4_13 rfl dX4_acted_65 (q := 68) rfl ?_
        refine pw_sipush hX (k := 813) (by decide) dX4_acted_68 (q := 71) rfl ?_
        refine pw_aload_n hX rfl dX4_acted_71 (q := 72) rfl ?_
        refine pw_getMS hX 4 (by decide) fl_X4_41 rfl dX4_acted_72 (q := 75) rfl ?_
        refine pw_imulN hX dX4_acted_75 (q := 76) rfl ?_
        refine pw_iload_n hX rfl dX4_acted_76 (q := 77) rfl ?_
        refine pw_iaddN hX dX4_acted_77 (q := 78) rfl ?_
        refine pw_aload_n hX rfl dX4_acted_78 (q := 79) rfl ?_
        refine pw_getMS hX 2 (by decide) fl_X4_16 rfl dX4_acted_79 (q := 82) rfl ?_
        refine pw_iload_n hX rfl dX4_acted_82 (q := 83) rfl ?_
        refine pw_ialdMS hX 3 (by decide) (show _ < 813 by omega) dX4_acted_83 (q := 84) rfl ?_
        refine pw_iastMS hX 2 (by decide) (show _ < 3252 by (have e0 : (vA V1 2 (fun j => if 813 * V1 0 4 ≤ j ∧ j < 813 * V1 0 4 + i then V1 3 (j - 813 * V1 0 4) else V1 2 j)) 0 4 = V1 0 4 := rfl; omega)) dX4_acted_84 (q := 85) rfl ?_
        refine pw_iinc hX rfl (by decide) (inc1 _) dX4_acted_85 (q := 88) rfl ?_
        refine pw_goto hX (tgt := 57) dX4_acted_88 (by decide) ?_
        refine pw_eq ?_ rfl rfl (ih (by omega))
        simp only [vU, vA_s, vA_vA]
        refine mW_eV (congrArg (vA V1 2) (funext fun j => ?_)) rfl
        simp only [upN, vA_n _ _ (show (0 : Nat) ≠ 2 by decide), vA_n _ _ (show (3 : Nat) ≠ 2 by decide)]
        by_cases hj : j = 813 * V1 0 4 + i
        · rw [if_pos hj, if_pos (by omega), hj, show 813 * V1 0 4 + i - 813 * V1 0 4 = i by omega]
        · rw [if_neg hj]
          by_cases h2 : 813 * V1 0 4 ≤ j ∧ j < 813 * V1 0 4 + i
          · rw [if_pos h2, if_pos (by omega)]
          · rw [if_neg h2, if_neg (by omega)]
    · have h_c : -1000001 < r := Int32.not_le.mp h_3
      refine pw_aload_n hX rfl dX4_acted_6 (q := 7) rfl ?_
      refine pw_getMS hX 4 (by decide) fl_X4_41 rfl dX4_acted_7 (q := 10) rfl ?_
      refine pw_iconst hX (k := 4) rfl (by decide) dX4_acted_10 (q := 11) rfl ?_
      refine pw_icmpN_ne hX (by omega) (by omega) (tgt := 55) dX4_acted_11 (q := 14) rfl (by decide) (fun h_11 => ?_) (fun h_11 => ?_)
      · exact pw_fg hX (by repeat first | exact lle_nil | refine lle_cons ?_ | refine lle_none ?_) (J6 _ (by first | omega | (show upN (V 0) 4 (V 0 4 - 1) 4 ≤ 3; rw [upN_s]; omega)) (by first | (rw [mActed, if_pos h_c, mPush, if_neg h_11]) | (rw [mActed, if_pos h_c, mPush, if_pos h_11]; refine congrArg mPu ?_; show mSh V = vA (vA V 2 _) 0 (upN (V 0) 4 (V 0 4 - 1)); rw [h_11]; rfl)))
      · refine pw_iconst hX (k := 0) rfl (by decide) dX4_acted_14 (q := 15) rfl ?_
        refine pw_istore_n hX (by decide) dX4_acted_15 (q := 16) rfl ?_
        suffices L : ∀ i, i ≤ 2439 → P (mW w (vA V 2 (cp i (fun j => V 2 (j + 813)) (V 2))) S) 16 [some (.ref (g_ad g 9 0)), some (.int r), some (.int (nI i))] [] by have h9 := L 0 (Nat.zero_le _); simp only [cp_0, vA_id] at h9; exact h9
        refine loopUp (fun i hi ih => ?_)
        refine pw_iload_n hX rfl dX4_acted_16 (q := 17) rfl ?_
        refine pw_sipush hX (k := 2439) (by decide) dX4_acted_17 (q := 20) rfl ?_
        refine pw_icmpN_ge hX (by omega) (by omega) (tgt := 45) dX4_acted_20 (q := 23) rfl (by decide) (fun h_20 => ?_) (fun h_20 => ?_)
        · have e16 : i = 2439 := by omega
          subst e16
          refine pw_aload_n hX rfl dX4_acted_45 (q := 46) rfl ?_
          refine pw_dup hX rfl dX4_acted_46 (q := 47) rfl ?_
          refine pw_getMS hX 4 (by decide) fl_X4_41 rfl dX4_acted_47 (q := 50) rfl ?_
          refine pw_iconst hX (k := 1) rfl (by decide) dX4_acted_50 (q := 51) rfl ?_
          refine pw_isubN hX (by show 1 ≤ V 0 4; omega) dX4_acted_51 (q := 52) rfl ?_
          refine pw_putMS hX 4 (by decide) fl_X4_41 dX4_acted_52 (q := 55) rfl ?_
          exact pw_fg hX (by repeat first | exact lle_nil | refine lle_cons ?_ | refine lle_none ?_) (J6 _ (by first | omega | (show upN (V 0) 4 (V 0 4 - 1) 4 ≤ 3; rw [upN_s]; omega)) (by first | (rw [mActed, if_pos h_c, mPush, if_neg h_11]) | (rw [mActed, if_pos h_c, mPush, if_pos h_11]; refine congrArg mPu ?_; show mSh V = vA (vA V 2 _) 0 (upN (V 0) 4 (V 0 4 - 1)); rw [h_11]; rfl)))
        · refine pw_aload_n hX rfl dX4_acted_23 (q := 24) rfl ?_
          refine pw_getMS hX 1 (by decide) fl_X4_13 rfl dX4_acted_24 (q := 27) rfl ?_
          refine pw_iload_n hX rfl dX4_acted_27 (q := 28) rfl ?_
          refine pw_aload_n hX rfl dX4_acted_28 (q := 29) rfl ?_
          refine pw_getMS hX 1 (by decide) fl_X4_13 rfl dX4_acted_29 (q := 32) rfl ?_
          refine pw_iload_n hX rfl dX4_acted_32 (q := 33) rfl ?_
          refine pw_sipush hX (k := 813) (by decide) dX4_acted_33 (q := 36) rfl ?_
          refine pw_iaddN hX dX4_acted_36 (q := 37) rfl ?_
          refine pw_ialdMS hX 2 (by decide) (show _ < 3252 by omega) dX4_acted_37 (q := 38) rfl ?_
          refine pw_iastMS hX 2 (by decide) (show _ < 3252 by omega) dX4_acted_38 (q := 39) rfl ?_
          refine pw_iinc hX rfl (by decide) (inc1 _) dX4_acted_39 (q := 42) rfl ?_
          refine pw_goto hX (tgt := 16) dX4_acted_42 (by decide) ?_
          refine pw_eq ?_ rfl rfl (ih (by omega))
          rw [show (vA V 2 (cp i (fun j => V 2 (j + 813)) (V 2))) 2 (i + 813) = V 2 (i + 813) by rw [vA_s]; simp only [cp, if_neg (show ¬ i + 813 < i by omega)]]
          simp only [vU, vA_s, vA_vA]
          rw [← cp_s]
