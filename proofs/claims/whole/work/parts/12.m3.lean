theorem mActed_n (V : Nat → Nat → Nat) {n : Nat} (h : n < 2 ^ 31) : mActed V (nI n) = mPush V := if_pos (by
  rw [Int32.lt_iff_toInt_lt, nI_toInt h, show (-1000001 : Int32).toInt = -1000001 by decide]; omega)
theorem mPush_states {V : Nat → Nat → Nat} (h : V 0 4 ≤ 4) : mPush V 0 4 ≤ 4 := by
  unfold mPush
  split
  · show upN (mSh V 0) 4 (mSh V 0 4 + 1) 4 ≤ 4
    rw [upN_s]
    show upN (V 0) 4 3 4 + 1 ≤ 4
    rw [upN_s]
    decide
  · show upN (V 0) 4 (V 0 4 + 1) 4 ≤ 4
    rw [upN_s]
    omega
theorem bS_le {S S' : Nat → Nat} (hB : bS S) (h : ∀ j, S' j ≤ S j) : bS S' := by
  obtain ⟨h1, h2, h3, h4, h5⟩ := hB
  exact ⟨fun j a b => Nat.lt_of_le_of_lt (h j) (h1 j a b), fun v k a b c => Nat.lt_of_le_of_lt (h _) (h2 v k a b c), Nat.le_trans (h 0) h3, Nat.lt_of_le_of_lt (h 1) h4, Nat.lt_of_le_of_lt (h 2) h5⟩
def zS (S : Nat → Nat) (n i : Nat) : Nat → Nat := fun j => if 5 + 4 * n ≤ j ∧ j < 5 + 4 * n + i then 0 else S j
theorem zS_s (S : Nat → Nat) (n i : Nat) : upN (zS S n i) (5 + 4 * n + i) 0 = zS S n (i + 1) := by
  funext j
  simp only [upN, zS]
  by_cases h : j = 5 + 4 * n + i
  · rw [if_pos h, if_pos (by omega)]
  · rw [if_neg h]
    by_cases h2 : 5 + 4 * n ≤ j ∧ j < 5 + 4 * n + i
    · rw [if_pos h2, if_pos (by omega)]
    · rw [if_neg h2, if_neg (by omega)]
theorem zS_0 (S : Nat → Nat) (n : Nat) : zS S n 0 = S := funext (fun j => if_neg (by omega))
def mNew (S : Nat → Nat) : Nat → Nat := upN (zS S (S 0) 4) 0 (S 0 + 1)
def zE (S : Nat → Nat) (v n : Nat) : Nat → Nat := fun j => if 225 + 84 * v ≤ j ∧ j < 225 + 84 * v + 7 * n ∧ (j - 225 - 84 * v) % 7 = 0 then 0 else S j
theorem zE_s (S : Nat → Nat) (v n : Nat) : upN (zE S v n) (225 + 84 * v + 7 * n) 0 = zE S v (n + 1) := by
  funext j
  simp only [upN, zE]
  by_cases h : j = 225 + 84 * v + 7 * n
  · rw [if_pos h, if_pos (by omega)]
  · rw [if_neg h]
    by_cases h2 : 225 + 84 * v ≤ j ∧ j < 225 + 84 * v + 7 * n ∧ (j - 225 - 84 * v) % 7 = 0
    · rw [if_pos h2, if_pos (by omega)]
    · rw [if_neg h2, if_neg (by omega)]
theorem zE_0 (S : Nat → Nat) (v : Nat) : zE S v 0 = S := funext (fun j => if_neg (by omega))
theorem zE_le (S : Nat → Nat) (v n j : Nat) : zE S v n j ≤ S j := by
  unfold zE; split <;> omega
def mLv (S : Nat → Nat) (v : Nat) : Nat → Nat := zE (upN S (5 + 4 * v + 0) 2) v 12
def mLeave (S : Nat → Nat) (v : Int32) : Int32 := if hasN (S 0) v = true then (if S (5 + 4 * ix v + 0) = 2 then -1000002 else nI (mMany (mLv S (ix v)) 0 + mMany (mLv S (ix v)) 1)) else -1000001
def mLeaveS (S : Nat → Nat) (v : Int32) : Nat → Nat := if hasN (S 0) v = true then (if S (5 + 4 * ix v + 0) = 2 then S else mLv S (ix v)) else S
def mLeaveV (V : Nat → Nat → Nat) (S : Nat → Nat) (v : Int32) : Nat → Nat → Nat := if hasN (S 0) v = true then (if S (5 + 4 * ix v + 0) = 2 then V else mPush (vA V 3 S)) else V
/-- a set of numbers below n -/
def bits (p : Nat → Bool) : Nat → Nat
  | 0 => 0
  | n + 1 => bits p n ||| (if p n = true then 2 ^ n else 0)
def mTopics (S : Nat → Nat) (v a : Nat) : Nat := bits (fun t => decide (S (225 + 84 * v + 7 * t + 0) = a)) 12
def mVOf (S : Nat → Nat) (v a : Int32) : Int32 := if hasN (S 0) v = true ∧ inN 0 5 a = true then (if ix a = 2 ∨ ix a = 3 then nI (mTopics S (ix v) (ix a - 1)) else if ix a = 4 then nI (S (5 + 4 * ix v + 2)) else if ix a = 5 then (if S (5 + 4 * ix v + 0) = 1 then nI (S 1) - nI (S (5 + 4 * ix v + 3)) else -1000004) else nI (S (5 + 4 * ix v + ix a))) else -1000001
def mNewer (a b c d : Nat) : Bool := decide (c < a ∨ (a = c ∧ d < b))
def mHN (S : Nat → Nat) (o p t : Nat) : Bool := if S (225 + 84 * o + 7 * t + 0) = 0 ∨ S (225 + 84 * p + 7 * t + 0) = 0 then decide (S (225 + 84 * o + 7 * t + 0) ≠ 0 ∧ S (225 + 84 * p + 7 * t + 0) = 0) else mNewer (S (225 + 84 * o + 7 * t + 1)) (S (225 + 84 * o + 7 * t + 2)) (S (225 + 84 * p + 7 * t + 1)) (S (225 + 84 * p + 7 * t + 2))
def mSame (S : Nat → Nat) (o p t : Nat) : Bool := decide (S (225 + 84 * o + 7 * t + 0) = 0 ↔ S (225 + 84 * p + 7 * t + 0) = 0) && (!(mHN S o p t) && !(mHN S p o t))
def mMake (S : Nat → Nat) (v t a b c : Nat) : Nat → Nat :=
  let S1 := upN S (5 + 4 * v + 1) (S (5 + 4 * v + 1) + 1)
  let S2 := upN S1 (225 + 84 * v + 7 * t) a
  let S3 := upN S2 (225 + 84 * v + 7 * t + 1) (S2 (5 + 4 * v + 1))
  let S4 := upN S3 (225 + 84 * v + 7 * t + 2) v
  let S5 := upN S4 (225 + 84 * v + 7 * t + 3) b
  let S6 := upN S5 (225 + 84 * v + 7 * t + 4) c
  let S7 := upN S6 (225 + 84 * v + 7 * t + 5) (S6 1)
  upN S7 (225 + 84 * v + 7 * t + 6) (2 ^ v)
theorem mMake_n (S : Nat → Nat) {v t a b c j : Nat} (h : j ≠ 5 + 4 * v + 1) (h2 : j < 225 + 84 * v + 7 * t ∨ 225 + 84 * v + 7 * t + 7 ≤ j) : mMake S v t a b c j = S j := by
  unfold mMake
  simp only [upN]
  repeat rw [if_neg (by omega)]
theorem mMake_c (S : Nat → Nat) {v t a b c : Nat} (h : v < 7) : mMake S v t a b c (5 + 4 * v + 1) = S (5 + 4 * v + 1) + 1 := by
  unfold mMake
  simp only [upN]
  repeat rw [if_neg (by omega)]
  rw [if_pos trivial]
theorem mMake_e (S : Nat → Nat) {v t a b c : Nat} (h : v < 7) : mMake S v t a b c (225 + 84 * v + 7 * t + 0) = a ∧ mMake S v t a b c (225 + 84 * v + 7 * t + 1) = S (5 + 4 * v + 1) + 1 ∧ mMake S v t a b c (225 + 84 * v + 7 * t + 2) = v ∧ mMake S v t a b c (225 + 84 * v + 7 * t + 3) = b ∧ mMake S v t a b c (225 + 84 * v + 7 * t + 4) = c ∧ mMake S v t a b c (225 + 84 * v + 7 * t + 5) = S 1 ∧ mMake S v t a b c (225 + 84 * v + 7 * t + 6) = 2 ^ v := by
  refine ⟨?_, ?_, ?_, ?_, ?_, ?_, ?_⟩ <;>
  · unfold mMake
    simp only [upN]
    repeat first
      | rw [if_pos (by first | trivial | omega)]
      | rw [if_neg (by omega)]
theorem bS_Make {S : Nat → Nat} (hB : bS S) {v t a b c : Nat} (hv : v < 7) (hc : S (5 + 4 * v + 1) + 1 < 2 ^ 30) (h1 : a < 2 ^ 30) (h2 : b < 2 ^ 30) (h3 : c < 2 ^ 30) : bS (mMake S v t a b c) := by
  have hp : 2 ^ v < 2 ^ 30 := Nat.pow_lt_pow_right (by decide) (by omega)
  have h1S := hB.2.2.2.1
  unfold mMake
  refine bS_upN (bS_upN (bS_upN (bS_upN (bS_upN (bS_upN (bS_upN (bS_upN hB (by omega) hc) (by omega) h1) (by omega) ?_) (by omega) (by omega)) (by omega) h2) (by omega) h3) (by omega) ?_) (by omega) hp
  · simp only [upN]
    split
    · exact h1
    · rw [if_pos trivial]; exact hc
  · simp only [upN]
    repeat rw [if_neg (by omega)]
    exact h1S
def mTells (S : Nat → Nat) (v t a k : Int32) : (Nat → Nat) × Int32 := if hasN (S 0) v = true ∧ hasN 12 t = true ∧ inN 0 99 a = true ∧ inN 0 2 k = true then (if S (5 + 4 * ix v + 0) = 0 then (mMake S (ix v) (ix t) 1 (ix a) (ix k), nI (mMake S (ix v) (ix t) 1 (ix a) (ix k) (5 + 4 * ix v + 1))) else (S, -1000002)) else (S, -1000001)
def mBury (S : Nat → Nat) (v t : Nat) : Nat → Nat :=
  let S1 := mMake S v t 2 0 0
  let S2 := upN S1 4 (S1 4 + 1)
  if mNewer (S1 (5 + 4 * v + 1)) v (S2 (33 + 2 * t)) (S2 (33 + 2 * t + 1)) = true then upN (upN S2 (33 + 2 * t) (S1 (5 + 4 * v + 1))) (33 + 2 * t + 1) v else S2
def mBuries (S : Nat → Nat) (v t : Int32) : (Nat → Nat) × Int32 := if hasN (S 0) v = true ∧ hasN 12 t = true then (if S (5 + 4 * ix v + 0) = 0 ∧ S (225 + 84 * ix v + 7 * ix t + 0) = 1 then (mBury S (ix v) (ix t), nI (mMake S (ix v) (ix t) 2 0 0 (5 + 4 * ix v + 1))) else (S, -1000002)) else (S, -1000001)
abbrev rm_X4_villager : Room := { frames := 1, cells := 0, slots := 0, locals := 22 }
set_option maxHeartbeats 4000000 in
set_option maxRecDepth 20000 in
theorem c_X4_villager {l : Launch} {g : Geo} {w : WD} {V : Nat → Nat → Nat} {S : Nat → Nat} (h4 : V 0 4 ≤ 4) (hB : bS S) : CtI l g yX4_villager cX4_villager 3 (some .int) rm_X4_villager [.ref (g_ad g 9 0)] (mW w V S) (if S 0 = 7 then -1000003 else nI (S 0)) (if S 0 = 7 then mW w V S else mW w (mPush (vA V 3 S)) (mNew S)) := by
  refine ct_of mi_X4_villager.2.2.2.2.2 ⟨rfl, rfl⟩ (List.forall_mem_cons.mpr ⟨rfl, fun _ h => absurd h List.not_mem_nil⟩) (Nat.le_of_ble_eq_true rfl) (fun P hX => ?_)
  replace hX : Gd l g RX4 cX4_villager rm_X4_villager 3 (some .int) _ _ P := hX
  show P (mW w V S) 0 [some (.ref (g_ad g 9 0)), none, none] []
  have h7 := hB.2.2.1
  have h7 := hB.2.2.1
  refine pw_aload_n hX rfl dX4_villager_0 (q := 1) rfl ?_
  refine pw_getMS hX 0 (by decide) fl_X4_7 rfl dX4_villager_1 (q := 4) rfl ?_
  refine pw_iconst hX (k := 0) rfl (by decide) dX4_villager_4 (q := 5) rfl ?_
  refine pw_ialdS hX (by omega) dX4_villager_5 (q := 6) rfl ?_
  refine pw_bipush hX (k := 7) (by decide) dX4_villager_6 (q := 8) rfl ?_
  refine pw_icmpN_ne hX (by first | omega | exact bS0 hB | exact bSw hB (by omega) (by omega) (by omega) | exact bSe hB (by omega) (by omega) | exact bS1 hB | exact bS2 hB) (by first | omega | exact bS0 hB | exact bSw hB (by omega) (by omega) (by omega) | exact bSe hB (by omega) (by omega) | exact bS1 hB | exact bS2 hB) (tgt := 14) dX4_villager_8 (q := 11) rfl (by decide) (fun h_8 => ?_) (fun h_8 => ?_)
  · refine pw_aload_n hX rfl dX4_villager_14 (q := 15) rfl ?_
    refine pw_cvV0 hX dX4_villager_15 (q := 18) rfl mi_X4_keeps ml_X4_46 rcM ⟨rfl, rfl, by decide, by decide⟩ rfl (Nat.le_of_ble_eq_true rfl) (c_X4_keeps) ?_
    refine pw_aload_n hX rfl dX4_villager_18 (q := 19) rfl ?_
    refine pw_getMS hX 0 (by decide) fl_X4_7 rfl dX4_villager_19 (q := 22) rfl ?_
    refine pw_iconst hX (k := 0) rfl (by decide) dX4_villager_22 (q := 23) rfl ?_
    refine pw_ialdS hX (by omega) dX4_villager_23 (q := 24) rfl ?_
    refine pw_istore_n hX (by decide) dX4_villager_24 (q := 25) rfl ?_
    refine pw_iconst hX (k := 0) rfl (by decide) dX4_villager_25 (q := 26) rfl ?_
    refine pw_istore_n hX (by decide) dX4_villager_26 (q := 27) rfl ?_
    suffices L : ∀ i, i ≤ 4 → P (mW w (vA V 3 S) (zS S (S 0) i)) 27 [some (.ref (g_ad g 9 0)), some (.int (nI (S 0))), some (.int (nI i))] [] by have h9 := L 0 (Nat.zero_le _); rw [zS_0] at h9; exact h9
    refine loopUp (fun i hi ih => ?_)
    refine pw_iload_n hX rfl dX4_villager_27 (q := 28) rfl ?_
    refine pw_iconst hX (k := 4) rfl (by decide) dX4_villager_28 (q := 29) rfl ?_
    refine pw_icmpN_ge hX (by first | omega | exact bS0 hB | exact bSw hB (by omega) (by omega) (by omega) | exact bSe hB (by omega) (by omega) | exact bS1 hB | exact bS2 hB) (by first | omega | exact bS0 hB | exact bSw hB (by omega) (by omega) (by omega) | exact bSe hB (by omega) (by omega) | exact bS1 hB | exact bS2 hB) (tgt := 51) dX4_villager_29 (q := 32) rfl (by decide) (fun h_29 => ?_) (fun h_29 => ?_)
    · have e4 : i = 4 := by omega
      subst e4
      refine pw_aload_n hX rfl dX4_villager_51 (q := 52) rfl ?_
      refine pw_getMS hX 0 (by decide) fl_X4_7 rfl dX4_villager_52 (q := 55) rfl ?_
      refine pw_iconst hX (k := 0) rfl (by decide) dX4_villager_55 (q := 56) rfl ?_
      refine pw_dup2 hX rfl rfl dX4_villager_56 (q := 57) rfl ?_
      refine pw_ialdS hX (by omega) dX4_villager_57 (q := 58) rfl ?_
      refine pw_iconst hX (k := 1) rfl (by decide) dX4_villager_58 (q := 59) rfl ?_
      refine pw_iaddN hX dX4_villager_59 (q := 60) rfl ?_
      refine pw_iastS hX (by omega) dX4_villager_60 (q := 61) rfl ?_
      rw [show zS S (S 0) 4 0 = S 0 from if_neg (by omega)]
      refine pw_aload_n hX rfl dX4_villager_61 (q := 62) rfl ?_
      refine pw_iload_n hX rfl dX4_villager_62 (q := 63) rfl ?_
      refine pw_cvI1 hX dX4_villager_63 (q := 66) rfl mi_X4_acted ml_X4_49 rcM ⟨rfl, rfl, by decide, by decide⟩ rfl (Nat.le_of_ble_eq_true rfl) (c_X4_acted (show (vA V 3 S) 0 4 ≤ 4 from h4)) ?_
      refine pw_ireturn hX dX4_villager_66 ⟨_, rfl, rfl⟩ ⟨congrArg (fun z => some (Value.int z)) ?_, ?_⟩
      · rw [if_neg h_8]
      · first | rw [if_pos h_8] | (rw [if_neg h_8, mActed_n _ (by omega)]; rfl)
    · refine pw_aload_n hX rfl dX4_villager_32 (q := 33) rfl ?_
      refine pw_getMS hX 0 (by decide) fl_X4_7 rfl dX4_villager_33 (q := 36) rfl ?_
      refine pw_iconst hX (k := 5) rfl (by decide) dX4_villager_36 (q := 37) rfl ?_
      refine pw_iconst hX (k := 4) rfl (by decide) dX4_villager_37 (q := 38) rfl ?_
      refine pw_iload_n hX rfl dX4_villager_38 (q := 39) rfl ?_
      refine pw_imulN hX dX4_villager_39 (q := 40) rfl ?_
      refine pw_iaddN hX dX4_villager_40 (q := 41) rfl ?_
      refine pw_iload_n hX rfl dX4_villager_41 (q := 42) rfl ?_
      refine pw_iaddN hX dX4_villager_42 (q := 43) rfl ?_
      refine pw_iconst hX (k := 0) rfl (by decide) dX4_villager_43 (q := 44) rfl ?_
      refine pw_iastS hX (by omega) dX4_villager_44 (q := 45) rfl ?_
      refine pw_iinc hX rfl (by decide) (inc1 _) dX4_villager_45 (q := 48) rfl ?_
      refine pw_goto hX (tgt := 27) dX4_villager_48 (by decide) ?_
      exact pw_eq (by rw [zS_s]) rfl rfl (ih (by omega))
  · refine pw_ldc hX cn_X4_45 dX4_villager_11 (q := 13) rfl ?_
    refine pw_ireturn hX dX4_villager_13 ⟨_, rfl, rfl⟩ ⟨congrArg (fun z => some (Value.int z)) ?_, ?_⟩
    · rw [if_pos h_8]
    · first | rw [if_pos h_8] | (rw [if_neg h_8, mActed_n _ (by omega)]; rfl)
abbrev rm_X4_sleeps : Room := { frames := 2, cells := 0, slots := 0, locals := 45 }
set_option maxHeartbeats 4000000 in
set_option maxRecDepth 20000 in
theorem c_X4_sleeps {l : Launch} {g : Geo} {w : WD} {V : Nat → Nat → Nat} {S : Nat → Nat} {v : Int32} (hB : bS S) : CtI l g yX4_sleeps cX4_sleeps 2 (some .int) rm_X4_sleeps [.ref (g_ad g 9 0), .int v] (mW w V S) ((mSleeps S v).2) (mW w V (mSleeps S v).1) := by
  refine ct_of mi_X4_sleeps.2.2.2.2.2 ⟨rfl, rfl⟩ (List.forall_mem_cons.mpr ⟨rfl, List.forall_mem_cons.mpr ⟨rfl, fun _ h => absurd h List.not_mem_nil⟩⟩) (Nat.le_of_ble_eq_true rfl) (fun P hX => ?_)
  replace hX : Gd l g RX4 cX4_sleeps rm_X4_sleeps 2 (some .int) _ _ P := hX
  show P (mW w V S) 0 [some (.ref (g_ad g 9 0)), some (.int v)] []
  have h7 := hB.2.2.1
  refine pw_aload_n hX rfl dX4_sleeps_0 (q := 1) rfl ?_
  refine pw_iload_n hX rfl dX4_sleeps_1 (q := 2) rfl ?_
  refine pw_cvI1 hX dX4_sleeps_2 (q := 5) rfl mi_X4_isVillager ml_X4_53 rcM ⟨rfl, rfl, by decide, by decide⟩ rfl (Nat.le_of_ble_eq_true rfl) (c_X4_isVillager (by first | assumption | omega)) ?_
  refine pw_ifB_ne hX (tgt := 11) dX4_sleeps_5 (q := 8) rfl (by decide) (fun h_5 => ?_) (fun h_5 => ?_)
  · obtain ⟨i, hi, rfl⟩ := hasN_of (by have := hB.2.2.1; omega) h_5
    have hx : ix (nI i) = i := ix_nI (by have := hB.2.2.1; omega)
    have h7 := hB.2.2.1
    refine pw_aload_n hX rfl dX4_sleeps_11 (q := 12) rfl ?_
    refine pw_iload_n hX rfl dX4_sleeps_12 (q := 13) rfl ?_
    refine pw_cvI1 hX dX4_sleeps_13 (q := 16) rfl mi_X4_isAwake ml_X4_57 rcM ⟨rfl, rfl, by decide, by decide⟩ rfl (Nat.le_of_ble_eq_true rfl) (c_X4_isAwake (by first | assumption | omega) (by first | assumption | omega)) ?_
    refine pw_ifB_ne hX (tgt := 22) dX4_sleeps_16 (q := 19) rfl (by decide) (fun h_16 => ?_) (fun h_16 => ?_)
    · have h_16 := of_decide_eq_true h_16
      refine pw_aload_n hX rfl dX4_sleeps_22 (q := 23) rfl ?_
      refine pw_getMS hX 0 (by decide) fl_X4_7 rfl dX4_sleeps_23 (q := 26) rfl ?_
      refine pw_iconst hX (k := 5) rfl (by decide) dX4_sleeps_26 (q := 27) rfl ?_
      refine pw_iconst hX (k := 4) rfl (by decide) dX4_sleeps_27 (q := 28) rfl ?_
      refine pw_iload_n hX rfl dX4_sleeps_28 (q := 29) rfl ?_
      refine pw_imulN hX dX4_sleeps_29 (q := 30) rfl ?_
      refine pw_iaddN hX dX4_sleeps_30 (q := 31) rfl ?_
      refine pw_iconst hX (k := 0) rfl (by decide) dX4_sleeps_31 (q := 32) rfl ?_
      refine pw_iaddN hX dX4_sleeps_32 (q := 33) rfl ?_
      refine pw_iconst hX (k := 1) rfl (by decide) dX4_sleeps_33 (q := 34) rfl ?_
      refine pw_iastS hX (by omega) dX4_sleeps_34 (q := 35) rfl ?_
      refine pw_aload_n hX rfl dX4_sleeps_35 (q := 36) rfl ?_
      refine pw_getMS hX 0 (by decide) fl_X4_7 rfl dX4_sleeps_36 (q := 39) rfl ?_
      refine pw_iconst hX (k := 5) rfl (by decide) dX4_sleeps_39 (q := 40) rfl ?_
      refine pw_iconst hX (k := 4) rfl (by decide) dX4_sleeps_40 (q := 41) rfl ?_
      refine pw_iload_n hX rfl dX4_sleeps_41 (q := 42) rfl ?_
      refine pw_imulN hX dX4_sleeps_42 (q := 43) rfl ?_
      refine pw_iaddN hX dX4_sleeps_43 (q := 44) rfl ?_
      refine pw_iconst hX (k := 3) rfl (by decide) dX4_sleeps_44 (q := 45) rfl ?_
      refine pw_iaddN hX dX4_sleeps_45 (q := 46) rfl ?_
      refine pw_aload_n hX rfl dX4_sleeps_46 (q := 47) rfl ?_
      refine pw_getMS hX 0 (by decide) fl_X4_7 rfl dX4_sleeps_47 (q := 50) rfl ?_
      refine pw_iconst hX (k := 1) rfl (by decide) dX4_sleeps_50 (q := 51) rfl ?_
      refine pw_ialdS hX (by omega) dX4_sleeps_51 (q := 52) rfl ?_
      refine pw_iastS hX (by omega) dX4_sleeps_52 (q := 53) rfl ?_
      have hB1 : bS (upN (upN S (5 + 4 * i + 0) 1) (5 + 4 * i + 3) (upN S (5 + 4 * i + 0) 1 1)) := bS_upN (bS_upN hB (by omega) (by decide)) (by omega) (by rw [upN_n _ _ (by omega)]; exact hB.2.2.2.1)
      refine pw_aload_n hX rfl dX4_sleeps_53 (q := 54) rfl ?_
      refine pw_iconst hX (k := 0) rfl (by decide) dX4_sleeps_54 (q := 55) rfl ?_
      refine pw_cvI1 hX dX4_sleeps_55 (q := 58) rfl mi_X4_many ml_X4_61 rcM ⟨rfl, rfl, by decide, by decide⟩ rfl (Nat.le_of_ble_eq_true rfl) (c_X4_many (by decide) hB1) ?_
      refine pw_ireturn hX dX4_sleeps_58 ⟨_, rfl, rfl⟩ ⟨congrArg (fun z => some (Value.int z)) ?_, ?_⟩
      · rw [mSleeps, if_pos h_5, hx, if_pos h_16, upN_n S 1 (show 1 ≠ 5 + 4 * i + 0 by omega)]
      · first | (rw [mSleeps, if_pos h_5, hx, if_pos h_16, upN_n S 1 (show 1 ≠ 5 + 4 * i + 0 by omega)]) | (rw [mSleeps, if_pos h_5, hx, if_neg h_16]) | (rw [mSleeps, if_neg (by simp [h_5])])
    · have h_16 := of_decide_eq_false h_16
      refine pw_ldc hX cn_X4_60 dX4_sleeps_19 (q := 21) rfl ?_
      refine pw_ireturn hX dX4_sleeps_21 ⟨_, rfl, rfl⟩ ⟨congrArg (fun z => some (Value.int z)) ?_, ?_⟩
      · simp only [mSleeps, h_5, hx, if_neg h_16, Bool.false_eq_true, and_true, true_and, and_false, false_and, if_true, if_false, ite_true, ite_false, decide_eq_true_eq, decide_eq_false_iff_not]
      · first | (rw [mSleeps, if_pos h_5, hx, if_pos h_16, upN_n S 1 (show 1 ≠ 5 + 4 * i + 0 by omega)]) | (rw [mSleeps, if_pos h_5, hx, if_neg h_16]) | (rw [mSleeps, if_neg (by simp [h_5])])
  · refine pw_ldc hX cn_X4_40 dX4_sleeps_8 (q := 10) rfl ?_
    refine pw_ireturn hX dX4_sleeps_10 ⟨_, rfl, rfl⟩ ⟨congrArg (fun z => some (Value.int z)) ?_, ?_⟩
    · simp only [mSleeps, h_5, Bool.false_eq_true, and_true, true_and, and_false, false_and, if_true, if_false, ite_true, ite_false, decide_eq_true_eq, decide_eq_false_iff_not]
    · first | (rw [mSleeps, if_pos h_5, hx, if_pos h_16, upN_n S 1 (show 1 ≠ 5 + 4 * i + 0 by omega)]) | (rw [mSleeps, if_pos h_5, hx, if_neg h_16]) | (rw [mSleeps, if_neg (by simp [h_5])])
abbrev rm_X4_sleep : Room := { frames := 3, cells := 0, slots := 0, locals := 66 }
set_option maxHeartbeats 4000000 in
set_option maxRecDepth 20000 in
theorem c_X4_sleep {l : Launch} {g : Geo} {w : WD} {V : Nat → Nat → Nat} {S : Nat → Nat} {v : Int32} (h4 : V 0 4 ≤ 4) (hB : bS S) : CtI l g yX4_sleep cX4_sleep 2 (some .int) rm_X4_sleep [.ref (g_ad g 9 0), .int v] (mW w V S) ((mSleeps S v).2) (mW w (mActed (vA V 3 S) (mSleeps S v).2) (mSleeps S v).1) := by
  refine ct_of mi_X4_sleep.2.2.2.2.2 ⟨rfl, rfl⟩ (List.forall_mem_cons.mpr ⟨rfl, List.forall_mem_cons.mpr ⟨rfl, fun _ h => absurd h List.not_mem_nil⟩⟩) (Nat.le_of_ble_eq_true rfl) (fun P hX => ?_)
  replace hX : Gd l g RX4 cX4_sleep rm_X4_sleep 2 (some .int) _ _ P := hX
  show P (mW w V S) 0 [some (.ref (g_ad g 9 0)), some (.int v)] []
  have h7 := hB.2.2.1
  refine pw_aload_n hX rfl dX4_sleep_0 (q := 1) rfl ?_
  refine pw_cvV0 hX dX4_sleep_1 (q := 4) rfl mi_X4_keeps ml_X4_46 rcM ⟨rfl, rfl, by decide, by decide⟩ rfl (Nat.le_of_ble_eq_true rfl) (c_X4_keeps) ?_
  refine pw_aload_n hX rfl dX4_sleep_4 (q := 5) rfl ?_
  refine pw_aload_n hX rfl dX4_sleep_5 (q := 6) rfl ?_
  refine pw_iload_n hX rfl dX4_sleep_6 (q := 7) rfl ?_
  refine pw_cvI1 hX dX4_sleep_7 (q := 10) rfl mi_X4_sleeps ml_X4_64 rcM ⟨rfl, rfl, by decide, by decide⟩ rfl (Nat.le_of_ble_eq_true rfl) (c_X4_sleeps hB) ?_
  refine pw_cvI1 hX dX4_sleep_10 (q := 13) rfl mi_X4_acted ml_X4_49 rcM ⟨rfl, rfl, by decide, by decide⟩ rfl (Nat.le_of_ble_eq_true rfl) (c_X4_acted (show (vA V 3 S) 0 4 ≤ 4 from h4)) ?_
  refine pw_ireturn hX dX4_sleep_13 ⟨_, rfl, rfl⟩ ⟨congrArg (fun z => some (Value.int z)) ?_, ?_⟩
  · rfl
  · rfl
abbrev rm_X4_wakes : Room := { frames := 2, cells := 0, slots := 0, locals := 43 }
set_option maxHeartbeats 4000000 in
set_option maxRecDepth 20000 in
theorem c_X4_wakes {l : Launch} {g : Geo} {w : WD} {V : Nat → Nat → Nat} {S : Nat → Nat} {v : Int32} (hB : bS S) : CtI l g yX4_wakes cX4_wakes 2 (some .int) rm_X4_wakes [.ref (g_ad g 9 0), .int v] (mW w V S) ((mWakes S v).2) (mW w V (mWakes S v).1) := by
  refine ct_of mi_X4_wakes.2.2.2.2.2 ⟨rfl, rfl⟩ (List.forall_mem_cons.mpr ⟨rfl, List.forall_mem_cons.mpr ⟨rfl, fun _ h => absurd h List.not_mem_nil⟩⟩) (Nat.le_of_ble_eq_true rfl) (fun P hX => ?_)
  replace hX : Gd l g RX4 cX4_wakes rm_X4_wakes 2 (some .int) _ _ P := hX
  show P (mW w V S) 0 [some (.ref (g_ad g 9 0)), some (.int v)] []
  have h7 := hB.2.2.1
  refine pw_aload_n hX rfl dX4_wakes_0 (q := 1) rfl ?_
  refine pw_iload_n hX rfl dX4_wakes_1 (q := 2) rfl ?_
  refine pw_cvI1 hX dX4_wakes_2 (q := 5) rfl mi_X4_isVillager ml_X4_53 rcM ⟨rfl, rfl, by decide, by decide⟩ rfl (Nat.le_of_ble_eq_true rfl) (c_X4_isVillager (by first | assumption | omega)) ?_
  refine pw_ifB_ne hX (tgt := 11) dX4_wakes_5 (q := 8) rfl (by decide) (fun h_5 => ?_) (fun h_5 => ?_)
  · obtain ⟨i, hi, rfl⟩ := hasN_of (by have := hB.2.2.1; omega) h_5
    have hx : ix (nI i) = i := ix_nI (by have := hB.2.2.1; omega)
    have h7 := hB.2.2.1
    refine pw_aload_n hX rfl dX4_wakes_11 (q := 12) rfl ?_
    refine pw_iload_n hX rfl dX4_wakes_12 (q := 13) rfl ?_
    refine pw_iconst hX (k := 0) rfl (by decide) dX4_wakes_13 (q := 14) rfl ?_
    refine pw_cvI2 hX dX4_wakes_14 (q := 17) rfl mi_X4_vi ml_X4_37 rcM ⟨rfl, rfl, by decide, by decide⟩ rfl (Nat.le_of_ble_eq_true rfl) (c_X4_vi (by first | assumption | omega) (by first | assumption | omega)) ?_
    refine pw_iconst hX (k := 1) rfl (by decide) dX4_wakes_17 (q := 18) rfl ?_
    refine pw_icmpN_eq hX (by first | omega | exact bS0 hB | exact bSw hB (by omega) (by omega) (by omega) | exact bSe hB (by omega) (by omega) | exact bS1 hB | exact bS2 hB) (by first | omega | exact bS0 hB | exact bSw hB (by omega) (by omega) (by omega) | exact bSe hB (by omega) (by omega) | exact bS1 hB | exact bS2 hB) (tgt := 24) dX4_wakes_18 (q := 21) rfl (by decide) (fun h_18 => ?_) (fun h_18 => ?_)
    · refine pw_aload_n hX rfl dX4_wakes_24 (q := 25) rfl ?_
      refine pw_getMS hX 0 (by decide) fl_X4_7 rfl dX4_wakes_25 (q := 28) rfl ?_
      refine pw_iconst hX (k := 5) rfl (by decide) dX4_wakes_28 (q := 29) rfl ?_
      refine pw_iconst hX (k := 4) rfl (by decide) dX4_wakes_29 (q := 30) rfl ?_
      refine pw_iload_n hX rfl dX4_wakes_30 (q := 31) rfl ?_
      refine pw_imulN hX dX4_wakes_31 (q := 32) rfl ?_
      refine pw_iaddN hX dX4_wakes_32 (q := 33) rfl ?_
      refine pw_iconst hX (k := 0) rfl (by decide) dX4_wakes_33 (q := 34) rfl ?_
      refine pw_iaddN hX dX4_wakes_34 (q := 35) rfl ?_
      refine pw_iconst hX (k := 0) rfl (by decide) dX4_wakes_35 (q := 36) rfl ?_
      refine pw_iastS hX (by omega) dX4_wakes_36 (q := 37) rfl ?_
      refine pw_aload_n hX rfl dX4_wakes_37 (q := 38) rfl ?_
      refine pw_getMS hX 0 (by decide) fl_X4_7 rfl dX4_wakes_38 (q := 41) rfl ?_
      refine pw_iconst hX (k := 1) rfl (by decide) dX4_wakes_41 (q := 42) rfl ?_
      refine pw_ialdS hX (by omega) dX4_wakes_42 (q := 43) rfl ?_
      refine pw_aload_n hX rfl dX4_wakes_43 (q := 44) rfl ?_
      refine pw_iload_n hX rfl dX4_wakes_44 (q := 45) rfl ?_
      refine pw_iconst hX (k := 3) rfl (by decide) dX4_wakes_45 (q := 46) rfl ?_
      refine pw_cvI2 hX dX4_wakes_46 (q := 49) rfl mi_X4_vi ml_X4_37 rcM ⟨rfl, rfl, by decide, by decide⟩ rfl (Nat.le_of_ble_eq_true rfl) (c_X4_vi (by first | assumption | omega) (by first | assumption | omega)) ?_
      refine pw_isub hX dX4_wakes_49 (q := 50) rfl ?_
      refine pw_ireturn hX dX4_wakes_50 ⟨_, rfl, rfl⟩ ⟨congrArg (fun z => some (Value.int z)) ?_, ?_⟩
      · rw [mWakes, if_pos h_5, hx, if_pos h_18, upN_n S 0 (show 1 ≠ 5 + 4 * i + 0 by omega), upN_n S 0 (show 5 + 4 * i + 3 ≠ 5 + 4 * i + 0 by omega)]
      · first | (rw [mWakes, if_pos h_5, hx, if_pos h_18]) | (rw [mWakes, if_pos h_5, hx, if_neg h_18]) | (rw [mWakes, if_neg (by simp [h_5])])
    · refine pw_ldc hX cn_X4_60 dX4_wakes_21 (q := 23) rfl ?_
      refine pw_ireturn hX dX4_wakes_23 ⟨_, rfl, rfl⟩ ⟨congrArg (fun z => some (Value.int z)) ?_, ?_⟩
      · simp only [mWakes, h_5, hx, if_neg h_18, Bool.false_eq_true, and_true, true_and, and_false, false_and, if_true, if_false, ite_true, ite_false, decide_eq_true_eq, decide_eq_false_iff_not]
      · first | (rw [mWakes, if_pos h_5, hx, if_pos h_18]) | (rw [mWakes, if_pos h_5, hx, if_neg h_18]) | (rw [mWakes, if_neg (by simp [h_5])])
  · refine pw_ldc hX cn_X4_40 dX4_wakes_8 (q := 10) rfl ?_
    refine pw_ireturn hX dX4_wakes_10 ⟨_, rfl, rfl⟩ ⟨congrArg (fun z => some (Value.int z)) ?_, ?_⟩
    · simp only [mWakes, h_5, Bool.false_eq_true, and_true, true_and, and_false, false_and, if_true, if_false, ite_true, ite_false, decide_eq_true_eq, decide_eq_false_iff_not]
    · first | (rw [mWakes, if_pos h_5, hx, if_pos h_18]) | (rw [mWakes, if_pos h_5, hx, if_neg h_18]) | (rw [mWakes, if_neg (by simp [h_5])])
abbrev rm_X4_wake : Room := { frames := 3, cells := 0, slots := 0, locals := 64 }
set_option maxHeartbeats 4000000 in
set_option maxRecDepth 20000 in
theorem c_X4_wake {l : Launch} {g : Geo} {w : WD} {V : Nat → Nat → Nat} {S : Nat → Nat} {v : Int32} (h4 : V 0 4 ≤ 4) (hB : bS S) : CtI l g yX4_wake cX4_wake 2 (some .int) rm_X4_wake [.ref (g_ad g 9 0), .int v] (mW w V S) ((mWakes S v).2) (mW w (mActed (vA V 3 S) (mWakes S v).2) (mWakes S v).1) := by
  refine ct_of mi_X4_wake.2.2.2.2.2 ⟨rfl, rfl⟩ (List.forall_mem_cons.mpr ⟨rfl, List.forall_mem_cons.mpr ⟨rfl, fun _ h => absurd h List.not_mem_nil⟩⟩) (Nat.le_of_ble_eq_true rfl) (fun P hX => ?_)
  replace hX : Gd l g RX4 cX4_wake rm_X4_wake 2 (some .int) _ _ P := hX
  show P (mW w V S) 0 [some (.ref (g_ad g 9 0)), some (.int v)] []
  have h7 := hB.2.2.1
  refine pw_aload_n hX rfl dX4_wake_0 (q := 1) rfl ?_
  refine pw_cvV0 hX dX4_wake_1 (q := 4) rfl mi_X4_keeps ml_X4_46 rcM ⟨rfl, rfl, by decide, by decide⟩ rfl (Nat.le_of_ble_eq_true rfl) (c_X4_keeps) ?_
  refine pw_aload_n hX rfl dX4_wake_4 (q := 5) rfl ?_
  refine pw_aload_n hX rfl dX4_wake_5 (q := 6) rfl ?_
  refine pw_iload_n hX rfl dX4_wake_6 (q := 7) rfl ?_
  refine pw_cvI1 hX dX4_wake_7 (q := 10) rfl mi_X4_wakes ml_X4_67 rcM ⟨rfl, rfl, by decide, by decide⟩ rfl (Nat.le_of_ble_eq_true rfl) (c_X4_wakes hB) ?_
  refine pw_cvI1 hX dX4_wake_10 (q := 13) rfl mi_X4_acted ml_X4_49 rcM ⟨rfl, rfl, by decide, by decide⟩ rfl (Nat.le_of_ble_eq_true rfl) (c_X4_acted (show (vA V 3 S) 0 4 ≤ 4 from h4)) ?_
  refine pw_ireturn hX dX4_wake_13 ⟨_, rfl, rfl⟩ ⟨congrArg (fun z => some (Value.int z)) ?_, ?_⟩
  · rfl
  · rfl
abbrev rm_X4_leave : Room := { frames := 2, cells := 0, slots := 0, locals := 45 }
set_option maxHeartbeats 4000000 in
set_option maxRecDepth 20000 in
theorem c_X4_leave {l : Launch} {g : Geo} {w : WD} {V : Nat → Nat → Nat} {S : Nat → Nat} {v : Int32} (h4 : V 0 4 ≤ 4) (hB : bS S) : CtI l g yX4_leave cX4_leave 3 (some .int) rm_X4_leave [.ref (g_ad g 9 0), .int v] (mW w V S) (mLeave S v) (mW w (mLeaveV V S v) (mLeaveS S v)) := by
  refine ct_of mi_X4_leave.2.2.2.2.2 ⟨rfl, rfl⟩ (List.forall_mem_cons.mpr ⟨rfl, List.forall_mem_cons.mpr ⟨rfl, fun _ h => absurd h List.not_mem_nil⟩⟩) (Nat.le_of_ble_eq_true rfl) (fun P hX => ?_)
  replace hX : Gd l g RX4 cX4_leave rm_X4_leave 3 (some .int) _ _ P := hX
  show P (mW w V S) 0 [some (.ref (g_ad g 9 0)), some (.int v), none] []
  have h7 := hB.2.2.1
  refine pw_aload_n hX rfl dX4_leave_0 (q := 1) rfl ?_
  refine pw_iload_n hX rfl dX4_leave_1 (q := 2) rfl ?_
  refine pw_cvI1 hX dX4_leave_2 (q := 5) rfl mi_X4_isVillager ml_X4_53 rcM ⟨rfl, rfl, by decide, by decide⟩ rfl (Nat.le_of_ble_eq_true rfl) (c_X4_isVillager (by first | assumption | omega)) ?_
  refine pw_ifB_ne hX (tgt := 11) dX4_leave_5 (q := 8) rfl (by decide) (fun h_5 => ?_) (fun h_5 => ?_)
  · obtain ⟨i, hi, rfl⟩ := hasN_of (by have := hB.2.2.1; omega) h_5
    have hx : ix (nI i) = i := ix_nI (by have := hB.2.2.1; omega)
    have h7 := hB.2.2.1
    refine pw_aload_n hX rfl dX4_leave_11 (q := 12) rfl ?_
    refine pw_iload_n hX rfl dX4_leave_12 (q := 13) rfl ?_
    refine pw_cvI1 hX dX4_leave_13 (q := 16) rfl mi_X4_isGone ml_X4_70 rcM ⟨rfl, rfl, by decide, by decide⟩ rfl (Nat.le_of_ble_eq_true rfl) (c_X4_isGone (by first | assumption | omega) (by first | assumption | omega)) ?_
    refine pw_ifB_eq hX (tgt := 22) dX4_leave_16 (q := 19) rfl (by decide) (fun h_16 => ?_) (fun h_16 => ?_)
    · have h_16 := of_decide_eq_false h_16
      refine pw_aload_n hX rfl dX4_leave_22 (q := 23) rfl ?_
      refine pw_cvV0 hX dX4_leave_23 (q := 26) rfl mi_X4_keeps ml_X4_46 rcM ⟨rfl, rfl, by decide, by decide⟩ rfl (Nat.le_of_ble_eq_true rfl) (c_X4_keeps) ?_
      refine pw_aload_n hX rfl dX4_leave_26 (q := 27) rfl ?_
      refine pw_getMS hX 0 (by decide) fl_X4_7 rfl dX4_leave_27 (q := 30) rfl ?_
      refine pw_iconst hX (k := 5) rfl (by decide) dX4_leave_30 (q := 31) rfl ?_
      refine pw_iconst hX (k := 4) rfl (by decide) dX4_leave_31 (q := 32) rfl ?_
      refine pw_iload_n hX rfl dX4_leave_32 (q := 33) rfl ?_
      refine pw_imulN hX dX4_leave_33 (q := 34) rfl ?_
      refine pw_iaddN hX dX4_leave_34 (q := 35) rfl ?_
      refine pw_iconst hX (k := 0) rfl (by decide) dX4_leave_35 (q := 36) rfl ?_
      refine pw_iaddN hX dX4_leave_36 (q := 37) rfl ?_
      refine pw_iconst hX (k := 2) rfl (by decide) dX4_leave_37 (q := 38) rfl ?_
      refine pw_iastS hX (by omega) dX4_leave_38 (q := 39) rfl ?_
      refine pw_iconst hX (k := 0) rfl (by decide) dX4_leave_39 (q := 40) rfl ?_
      refine pw_istore_n hX (by decide) dX4_leave_40 (q := 41) rfl ?_
      suffices L : ∀ t, t ≤ 12 → P (mW w (vA V 3 S) (zE (upN S (5 + 4 * i + 0) 2) i t)) 41 [some (.ref (g_ad g 9 0)), some (.int (nI i)), some (.int (nI t))] [] by have h9 := L 0 (Nat.zero_le _); rw [zE_0] at h9; exact h9
      refine loopUp (fun t ht ih => ?_)
      refine pw_iload_n hX rfl dX4_leave_41 (q := 42) rfl ?_
      refine pw_bipush hX (k := 12) (by decide) dX4_leave_42 (q := 44) rfl ?_
      refine pw_icmpN_ge hX (by first | omega | exact bS0 hB | exact bSw hB (by omega) (by omega) (by omega) | exact bSe hB (by omega) (by omega) | exact bS1 hB | exact bS2 hB) (by first | omega | exact bS0 hB | exact bSw hB (by omega) (by omega) (by omega) | exact bSe hB (by omega) (by omega) | exact bS1 hB | exact bS2 hB) (tgt := 64) dX4_leave_44 (q := 47) rfl (by decide) (fun h_44 => ?_) (fun h_44 => ?_)
      · have e4 : t = 12 := by omega
        subst e4
        have hB1 : bS (zE (upN S (5 + 4 * i + 0) 2) i 12) := bS_le (bS_upN hB (by omega) (by decide)) (fun j => zE_le _ _ _ _)
        have hm0 := cnt_le (fun v => decide (zE (upN S (5 + 4 * i + 0) 2) i 12 (5 + 4 * v + 0) = 0)) (zE (upN S (5 + 4 * i + 0) 2) i 12 0)
        have hm1 := cnt_le (fun v => decide (zE (upN S (5 + 4 * i + 0) 2) i 12 (5 + 4 * v + 0) = 1)) (zE (upN S (5 + 4 * i + 0) 2) i 12 0)
        have hn7 := hB1.2.2.1
        refine pw_aload_n hX rfl dX4_leave_64 (q := 65) rfl ?_
        refine pw_aload_n hX rfl dX4_leave_65 (q := 66) rfl ?_
        refine pw_iconst hX (k := 0) rfl (by decide) dX4_leave_66 (q := 67) rfl ?_
        refine pw_cvI1 hX dX4_leave_67 (q := 70) rfl mi_X4_many ml_X4_61 rcM ⟨rfl, rfl, by decide, by decide⟩ rfl (Nat.le_of_ble_eq_true rfl) (c_X4_many (by decide) hB1) ?_
        refine pw_aload_n hX rfl dX4_leave_70 (q := 71) rfl ?_
        refine pw_iconst hX (k := 1) rfl (by decide) dX4_leave_71 (q := 72) rfl ?_
        refine pw_cvI1 hX dX4_leave_72 (q := 75) rfl mi_X4_many ml_X4_61 rcM ⟨rfl, rfl, by decide, by decide⟩ rfl (Nat.le_of_ble_eq_true rfl) (c_X4_many (by decide) hB1) ?_
        refine pw_iaddN hX dX4_leave_75 (q := 76) rfl ?_
        refine pw_cvI1 hX dX4_leave_76 (q := 79) rfl mi_X4_acted ml_X4_49 rcM ⟨rfl, rfl, by decide, by decide⟩ rfl (Nat.le_of_ble_eq_true rfl) (c_X4_acted (show (vA V 3 S) 0 4 ≤ 4 from h4)) ?_
        refine pw_ireturn hX dX4_leave_79 ⟨_, rfl, rfl⟩ ⟨congrArg (fun z => some (Value.int z)) ?_, ?_⟩
        · rw [mLeave, if_pos h_5, hx, if_neg h_16]; rfl
        · first | (rw [mLeaveV, mLeaveS, if_pos h_5, if_pos h_5, hx, if_neg h_16, if_neg h_16, mActed_n _ (by unfold mMany; omega)]; rfl) | (rw [mLeaveV, mLeaveS, if_pos h_5, if_pos h_5, hx, if_pos h_16, if_pos h_16]) | (rw [mLeaveV, mLeaveS, if_neg (by simp [h_5]), if_neg (by simp [h_5])])
      · refine pw_aload_n hX rfl dX4_leave_47 (q := 48) rfl ?_
        refine pw_getMS hX 0 (by decide) fl_X4_7 rfl dX4_leave_48 (q := 51) rfl ?_
        refine pw_iload_n hX rfl dX4_leave_51 (q := 52) rfl ?_
        refine pw_iload_n hX rfl dX4_leave_52 (q := 53) rfl ?_
        refine pw_csI2 hX dX4_leave_53 (q := 56) rfl mi_X4_place ml_X4_29 ⟨rfl, rfl, by decide, by decide⟩ rfl (Nat.le_of_ble_eq_true rfl) (c_X4_place) ?_
        refine pw_iconst hX (k := 0) rfl (by decide) dX4_leave_56 (q := 57) rfl ?_
        refine pw_iastS hX (by omega) dX4_leave_57 (q := 58) rfl ?_
        refine pw_iinc hX rfl (by decide) (inc1 _) dX4_leave_58 (q := 61) rfl ?_
        refine pw_goto hX (tgt := 41) dX4_leave_61 (by decide) ?_
        exact pw_eq (by rw [zE_s]) rfl rfl (ih (by omega))
    · have h_16 := of_decide_eq_true h_16
      refine pw_ldc hX cn_X4_60 dX4_leave_19 (q := 21) rfl ?_
      refine pw_ireturn hX dX4_leave_21 ⟨_, rfl, rfl⟩ ⟨congrArg (fun z => some (Value.int z)) ?_, ?_⟩
      · simp only [mLeave, h_5, hx, if_pos h_16, Bool.false_eq_true, and_true, true_and, and_false, false_and, if_true, if_false, ite_true, ite_false, decide_eq_true_eq, decide_eq_false_iff_not]
      · first | (rw [mLeaveV, mLeaveS, if_pos h_5, if_pos h_5, hx, if_neg h_16, if_neg h_16, mActed_n _ (by unfold mMany; omega)]; rfl) | (rw [mLeaveV, mLeaveS, if_pos h_5, if_pos h_5, hx, if_pos h_16, if_pos h_16]) | (rw [mLeaveV, mLeaveS, if_neg (by simp [h_5]), if_neg (by simp [h_5])])
  · refine pw_ldc hX cn_X4_40 dX4_leave_8 (q := 10) rfl ?_
    refine pw_ireturn hX dX4_leave_10 ⟨_, rfl, rfl⟩ ⟨congrArg (fun z => some (Value.int z)) ?_, ?_⟩
    · simp only [mLeave, h_5, Bool.false_eq_true, and_true, true_and, and_false, false_and, if_true, if_false, ite_true, ite_false, decide_eq_true_eq, decide_eq_false_iff_not]
    · first | (rw [mLeaveV, mLeaveS, if_pos h_5, if_pos h_5, hx, if_neg h_16, if_neg h_16, mActed_n _ (by unfold mMany; omega)]; rfl) | (rw [mLeaveV, mLeaveS, if_pos h_5, if_pos h_5, hx, if_pos h_16, if_pos h_16]) | (rw [mLeaveV, mLeaveS, if_neg (by simp [h_5]), if_neg (by simp [h_5])])
abbrev rm_X4_watch : Room := { frames := 1, cells := 0, slots := 0, locals := 22 }
set_option maxHeartbeats 4000000 in
set_option maxRecDepth 20000 in
theorem c_X4_watch {l : Launch} {g : Geo} {w : WD} {V : Nat → Nat → Nat} {S : Nat → Nat} {v : Int32} (h4 : V 0 4 ≤ 4) (hB : bS S) : CtI l g yX4_watch cX4_watch 3 (some .int) rm_X4_watch [.ref (g_ad g 9 0), .int v] (mW w V S) (if inN 1 60 v = true then nI (S 2) else -1000001) (if inN 1 60 v = true then mW w (mPush (vA V 3 S)) (upN S 2 (ix v)) else mW w V S) := by
  refine ct_of mi_X4_watch.2.2.2.2.2 ⟨rfl, rfl⟩ (List.forall_mem_cons.mpr ⟨rfl, List.forall_mem_cons.mpr ⟨rfl, fun _ h => absurd h List.not_mem_nil⟩⟩) (Nat.le_of_ble_eq_true rfl) (fun P hX => ?_)
  replace hX : Gd l g RX4 cX4_watch rm_X4_watch 3 (some .int) _ _ P := hX
  show P (mW w V S) 0 [some (.ref (g_ad g 9 0)), some (.int v), none] []
  have h7 := hB.2.2.1
  refine pw_iload_n hX rfl dX4_watch_0 (q := 1) rfl ?_
  refine pw_iconst hX (k := 1) rfl (by decide) dX4_watch_1 (q := 2) rfl ?_
  refine pw_bipush hX (k := 60) (by decide) dX4_watch_2 (q := 4) rfl ?_
  refine pw_csI3 hX dX4_watch_4 (q := 7) rfl mi_X4_in ml_X4_33 ⟨rfl, rfl, by decide, by decide⟩ rfl (Nat.le_of_ble_eq_true rfl) (c_X4_inN (by decide) (by decide)) ?_
  refine pw_ifB_ne hX (tgt := 13) dX4_watch_7 (q := 10) rfl (by decide) (fun h_7 => ?_) (fun h_7 => ?_)
  · obtain ⟨i, hi0, hi, rfl⟩ := inN_of (by decide) h_7
    have hx : ix (nI i) = i := ix_nI (by omega)
    refine pw_aload_n hX rfl dX4_watch_13 (q := 14) rfl ?_
    refine pw_cvV0 hX dX4_watch_14 (q := 17) rfl mi_X4_keeps ml_X4_46 rcM ⟨rfl, rfl, by decide, by decide⟩ rfl (Nat.le_of_ble_eq_true rfl) (c_X4_keeps) ?_
    refine pw_aload_n hX rfl dX4_watch_17 (q := 18) rfl ?_
    refine pw_getMS hX 0 (by decide) fl_X4_7 rfl dX4_watch_18 (q := 21) rfl ?_
    refine pw_iconst hX (k := 2) rfl (by decide) dX4_watch_21 (q := 22) rfl ?_
    refine pw_ialdS hX (by omega) dX4_watch_22 (q := 23) rfl ?_
    refine pw_istore_n hX (by decide) dX4_watch_23 (q := 24) rfl ?_
    refine pw_aload_n hX rfl dX4_watch_24 (q := 25) rfl ?_
    refine pw_getMS hX 0 (by decide) fl_X4_7 rfl dX4_watch_25 (q := 28) rfl ?_
    refine pw_iconst hX (k := 2) rfl (by decide) dX4_watch_28 (q := 29) rfl ?_
    refine pw_iload_n hX rfl dX4_watch_29 (q := 30) rfl ?_
    refine pw_iastS hX (by omega) dX4_watch_30 (q := 31) rfl ?_
    refine pw_aload_n hX rfl dX4_watch_31 (q := 32) rfl ?_
    refine pw_iload_n hX rfl dX4_watch_32 (q := 33) rfl ?_
    refine pw_cvI1 hX dX4_watch_33 (q := 36) rfl mi_X4_acted ml_X4_49 rcM ⟨rfl, rfl, by decide, by decide⟩ rfl (Nat.le_of_ble_eq_true rfl) (c_X4_acted (show (vA V 3 S) 0 4 ≤ 4 from h4)) ?_
    refine pw_ireturn hX dX4_watch_36 ⟨_, rfl, rfl⟩ ⟨congrArg (fun z => some (Value.int z)) ?_, ?_⟩
    · rw [if_pos h_7]
    · first | (rw [if_pos h_7, mActed_n _ (bS2 hB), hx]) | (rw [if_neg (by simp [h_7])])
  · refine pw_ldc hX cn_X4_40 dX4_watch_10 (q := 12) rfl ?_
    refine pw_ireturn hX dX4_watch_12 ⟨_, rfl, rfl⟩ ⟨congrArg (fun z => some (Value.int z)) ?_, ?_⟩
    · rw [if_neg (by simp [h_7])]
    · first | (rw [if_pos h_7, mActed_n _ (bS2 hB), hx]) | (rw [if_neg (by simp [h_7])])
abbrev rm_X4_topics : Room := { frames := 2, cells := 0, slots := 0, locals := 44 }
set_option maxHeartbeats 4000000 in
set_option maxRecDepth 20000 in
theorem c_X4_topics {l : Launch} {g : Geo} {w : WD} {V : Nat → Nat → Nat} {S : Nat → Nat} {i a : Nat} (hi : i < 7) (ha : a < 2 ^ 31) (hB : bS S) : CtI l g yX4_topics cX4_topics 5 (some .int) rm_X4_topics [.ref (g_ad g 9 0), .int (nI i), .int (nI a)] (mW w V S) (nI (mTopics S i a)) (mW w V S) := by
  refine ct_of mi_X4_topics.2.2.2.2.2 ⟨rfl, rfl⟩ (List.forall_mem_cons.mpr ⟨rfl, List.forall_mem_cons.mpr ⟨rfl, List.forall_mem_cons.mpr ⟨rfl, fun _ h => absurd h List.not_mem_nil⟩⟩⟩) (Nat.le_of_ble_eq_true rfl) (fun P hX => ?_)
  replace hX : Gd l g RX4 cX4_topics rm_X4_topics 5 (some .int) _ _ P := hX
  show P (mW w V S) 0 [some (.ref (g_ad g 9 0)), some (.int (nI i)), some (.int (nI a)), none, none] []
  have h7 := hB.2.2.1
  refine pw_iconst hX (k := 0) rfl (by decide) dX4_topics_0 (q := 1) rfl ?_
  refine pw_istore_n hX (by decide) dX4_topics_1 (q := 2) rfl ?_
  refine pw_iconst hX (k := 0) rfl (by decide) dX4_topics_2 (q := 3) rfl ?_
  refine pw_istore hX (by decide) dX4_topics_3 (q := 5) rfl ?_
  suffices L : ∀ t, t ≤ 12 → P (mW w V S) 5 [some (.ref (g_ad g 9 0)), some (.int (nI i)), some (.int (nI a)), some (.int (nI (bits (fun t => decide (S (225 + 84 * i + 7 * t + 0) = a)) t))), some (.int (nI t))] [] by exact L 0 (Nat.zero_le _)
  refine loopUp (fun t ht ih => ?_)
  refine pw_iload hX rfl dX4_topics_5 (q := 7) rfl ?_
  refine pw_bipush hX (k := 12) (by decide) dX4_topics_7 (q := 9) rfl ?_
  refine pw_icmpN_ge hX (by first | omega | exact bS0 hB | exact bSw hB (by omega) (by omega) (by omega) | exact bSe hB (by omega) (by omega) | exact bS1 hB | exact bS2 hB) (by first | omega | exact bS0 hB | exact bSw hB (by omega) (by omega) (by omega) | exact bSe hB (by omega) (by omega) | exact bS1 hB | exact bS2 hB) (tgt := 41) dX4_topics_9 (q := 12) rfl (by decide) (fun h_9 => ?_) (fun h_9 => ?_)
  · refine pw_iload_n hX rfl dX4_topics_41 (q := 42) rfl ?_
    refine pw_ireturn hX dX4_topics_42 ⟨_, rfl, rfl⟩ ⟨congrArg (fun z => some (Value.int z)) ?_, ?_⟩
    · rw [show t = 12 by omega]; rfl
    · rfl
  · refine pw_iload_n hX rfl dX4_topics_12 (q := 13) rfl ?_
    refine pw_aload_n hX rfl dX4_topics_13 (q := 14) rfl ?_
    refine pw_iload_n hX rfl dX4_topics_14 (q := 15) rfl ?_
    refine pw_iload hX rfl dX4_topics_15 (q := 17) rfl ?_
    refine pw_iconst hX (k := 0) rfl (by decide) dX4_topics_17 (q := 18) rfl ?_
    refine pw_cvI3 hX dX4_topics_18 (q := 21) rfl mi_X4_en ml_X4_73 rcM ⟨rfl, rfl, by decide, by decide⟩ rfl (Nat.le_of_ble_eq_true rfl) (c_X4_en (by first | assumption | omega) (by first | assumption | omega) (by first | assumption | omega)) ?_
    refine pw_iload_n hX rfl dX4_topics_21 (q := 22) rfl ?_
    refine pw_icmpN_ne hX (by first | omega | exact bS0 hB | exact bSw hB (by omega) (by omega) (by omega) | exact bSe hB (by omega) (by omega) | exact bS1 hB | exact bS2 hB) (by first | omega | exact bS0 hB | exact bSw hB (by omega) (by omega) (by omega) | exact bSe hB (by omega) (by omega) | exact bS1 hB | exact bS2 hB) (tgt := 32) dX4_topics_22 (q := 25) rfl (by decide) (fun h_22 => ?_) (fun h_22 => ?_)
    · refine pw_iconst hX (k := 0) rfl (by decide) dX4_topics_32 (q := 33) rfl ?_
      refine pw_iorN hX dX4_topics_33 (q := 34) rfl ?_
      refine pw_istore_n hX (by decide) dX4_topics_34 (q := 35) rfl ?_
      refine pw_iinc hX rfl (by decide) (inc1 _) dX4_topics_35 (q := 38) rfl ?_
      refine pw_goto hX (tgt := 5) dX4_topics_38 (by decide) ?_
      exact pw_eq rfl (by simp_all [lst, bits]) rfl (ih (by omega))
    · refine pw_iconst hX (k := 1) rfl (by decide) dX4_topics_25 (q := 26) rfl ?_
      refine pw_iload hX rfl dX4_topics_26 (q := 28) rfl ?_
      refine pw_ishl1 hX (by omega) dX4_topics_28 (q := 29) rfl ?_
      refine pw_goto hX (tgt := 33) dX4_topics_29 (by decide) ?_
      refine pw_iorN hX dX4_topics_33 (q := 34) rfl ?_
      refine pw_istore_n hX (by decide) dX4_topics_34 (q := 35) rfl ?_
      refine pw_iinc hX rfl (by decide) (inc1 _) dX4_topics_35 (q := 38) rfl ?_
      refine pw_goto hX (tgt := 5) dX4_topics_38 (by decide) ?_
      exact pw_eq rfl (by simp_all [lst, bits]) rfl (ih (by omega))
abbrev rm_X4_villagerOf : Room := { frames := 3, cells := 0, slots := 0, locals := 68 }
set_option maxHeartbeats 4000000 in
set_option maxRecDepth 20000 in
theorem c_X4_villagerOf {l : Launch} {g : Geo} {w : WD} {V : Nat → Nat → Nat} {S : Nat → Nat} {v a : Int32} (hB : bS S) : CtI l g yX4_villagerOf cX4_villagerOf 3 (some .int) rm_X4_villagerOf [.ref (g_ad g 9 0), .int v, .int a] (mW w V S) (mVOf S v a) (mW w V S) := by
  refine ct_of mi_X4_villagerOf.2.2.2.2.2 ⟨rfl, rfl⟩ (List.forall_mem_cons.mpr ⟨rfl, List.forall_mem_cons.mpr ⟨rfl, List.forall_mem_cons.mpr ⟨rfl, fun _ h => absurd h List.not_mem_nil⟩⟩⟩) (Nat.le_of_ble_eq_true rfl) (fun P hX => ?_)
  replace hX : Gd l g RX4 cX4_villagerOf rm_X4_villagerOf 3 (some .int) _ _ P := hX
  show P (mW w V S) 0 [some (.ref (g_ad g 9 0)), some (.int v), some (.int a)] []
  have h7 := hB.2.2.1
  refine pw_aload_n hX rfl dX4_villagerOf_0 (q := 1) rfl ?_
  refine pw_iload_n hX rfl dX4_villagerOf_1 (q := 2) rfl ?_
  refine pw_cvI1 hX dX4_villagerOf_2 (q := 5) rfl mi_X4_isVillager ml_X4_53 rcM ⟨rfl, rfl, by decide, by decide⟩ rfl (Nat.le_of_ble_eq_true rfl) (c_X4_isVillager (by first | assumption | omega)) ?_
  refine pw_ifB_eq hX (tgt := 17) dX4_villagerOf_5 (q := 8) rfl (by decide) (fun h_5 => ?_) (fun h_5 => ?_)
  · refine pw_ldc hX cn_X4_40 dX4_villagerOf_17 (q := 19) rfl ?_
    refine pw_ireturn hX dX4_villagerOf_19 ⟨_, rfl, rfl⟩ ⟨congrArg (fun z => some (Value.int z)) ?_, ?_⟩
    · rw [mVOf, if_neg (by rintro ⟨a1, a2⟩; simp_all)]
    · rfl
  · obtain ⟨i, hi, rfl⟩ := hasN_of (by have := hB.2.2.1; omega) h_5
    have hx : ix (nI i) = i := ix_nI (by have := hB.2.2.1; omega)
    have h7 := hB.2.2.1
    refine pw_iload_n hX rfl dX4_villagerOf_8 (q := 9) rfl ?_
    refine pw_iconst hX (k := 0) rfl (by decide) dX4_villagerOf_9 (q := 10) rfl ?_
    refine pw_iconst hX (k := 5) rfl (by decide) dX4_villagerOf_10 (q := 11) rfl ?_
    refine pw_csI3 hX dX4_villagerOf_11 (q := 14) rfl mi_X4_in ml_X4_33 ⟨rfl, rfl, by decide, by decide⟩ rfl (Nat.le_of_ble_eq_true rfl) (c_X4_inN (by decide) (by decide)) ?_
    refine pw_ifB_ne hX (tgt := 20) dX4_villagerOf_14 (q := 17) rfl (by decide) (fun h_14 => ?_) (fun h_14 => ?_)
    · obtain ⟨k, -, hk, rfl⟩ := inN_of (by decide) h_14
      have hxk : ix (nI k) = k := ix_nI (by omega)
      refine pw_iload_n hX rfl dX4_villagerOf_20 (q := 21) rfl ?_
      rcases (show k = 2 ∨ k = 3 ∨ k = 4 ∨ k = 5 ∨ k = 0 ∨ k = 1 by omega) with rfl | rfl | rfl | rfl | rfl | rfl
      · refine pw_tabIn hX (tgt := 52) (off := 31) dX4_villagerOf_21 (by decide) (by decide) (by decide) (by decide) ?_
        refine pw_aload_n hX rfl dX4_villagerOf_52 (q := 53) rfl ?_
        refine pw_iload_n hX rfl dX4_villagerOf_53 (q := 54) rfl ?_
        refine pw_iload_n hX rfl dX4_villagerOf_54 (q := 55) rfl ?_
        refine pw_iconst hX (k := 1) rfl (by decide) dX4_villagerOf_55 (q := 56) rfl ?_
        refine pw_isubN hX (by first | assumption | omega) dX4_villagerOf_56 (q := 57) rfl ?_
        refine pw_cvI2 hX dX4_villagerOf_57 (q := 60) rfl mi_X4_topics ml_X4_77 rcM ⟨rfl, rfl, by decide, by decide⟩ rfl (Nat.le_of_ble_eq_true rfl) (c_X4_topics (by omega) (by decide) hB) ?_
        refine pw_ireturn hX dX4_villagerOf_60 ⟨_, rfl, rfl⟩ ⟨congrArg (fun z => some (Value.int z)) ?_, ?_⟩
        · rw [mVOf, if_pos ⟨h_5, h_14⟩, hx, hxk]; rfl
        · rfl
      · refine pw_tabIn hX (tgt := 52) (off := 31) dX4_villagerOf_21 (by decide) (by decide) (by decide) (by decide) ?_
        refine pw_aload_n hX rfl dX4_villagerOf_52 (q := 53) rfl ?_
        refine pw_iload_n hX rfl dX4_villagerOf_53 (q := 54) rfl ?_
        refine pw_iload_n hX rfl dX4_villagerOf_54 (q := 55) rfl ?_
        refine pw_iconst hX (k := 1) rfl (by decide) dX4_villagerOf_55 (q := 56) rfl ?_
        refine pw_isubN hX (by first | assumption | omega) dX4_villagerOf_56 (q := 57) rfl ?_
        refine pw_cvI2 hX dX4_villagerOf_57 (q := 60) rfl mi_X4_topics ml_X4_77 rcM ⟨rfl, rfl, by decide, by decide⟩ rfl (Nat.le_of_ble_eq_true rfl) (c_X4_topics (by omega) (by decide) hB) ?_
        refine pw_ireturn hX dX4_villagerOf_60 ⟨_, rfl, rfl⟩ ⟨congrArg (fun z => some (Value.int z)) ?_, ?_⟩
        · rw [mVOf, if_pos ⟨h_5, h_14⟩, hx, hxk]; rfl
        · rfl
      · refine pw_tabIn hX (tgt := 61) (off := 40) dX4_villagerOf_21 (by decide) (by decide) (by decide) (by decide) ?_
        refine pw_aload_n hX rfl dX4_villagerOf_61 (q := 62) rfl ?_
        refine pw_iload_n hX rfl dX4_villagerOf_62 (q := 63) rfl ?_
        refine pw_iconst hX (k := 2) rfl (by decide) dX4_villagerOf_63 (q := 64) rfl ?_
        refine pw_cvI2 hX dX4_villagerOf_64 (q := 67) rfl mi_X4_vi ml_X4_37 rcM ⟨rfl, rfl, by decide, by decide⟩ rfl (Nat.le_of_ble_eq_true rfl) (c_X4_vi (by first | assumption | omega) (by first | assumption | omega)) ?_
        refine pw_ireturn hX dX4_villagerOf_67 ⟨_, rfl, rfl⟩ ⟨congrArg (fun z => some (Value.int z)) ?_, ?_⟩
        · rw [mVOf, if_pos ⟨h_5, h_14⟩, hx, hxk]; rfl
        · rfl
      · refine pw_tabIn hX (tgt := 68) (off := 47) dX4_villagerOf_21 (by decide) (by decide) (by decide) (by decide) ?_
        refine pw_aload_n hX rfl dX4_villagerOf_68 (q := 69) rfl ?_
        refine pw_iload_n hX rfl dX4_villagerOf_69 (q := 70) rfl ?_
        refine pw_iconst hX (k := 0) rfl (by decide) dX4_villagerOf_70 (q := 71) rfl ?_
        refine pw_cvI2 hX dX4_villagerOf_71 (q := 74) rfl mi_X4_vi ml_X4_37 rcM ⟨rfl, rfl, by decide, by decide⟩ rfl (Nat.le_of_ble_eq_true rfl) (c_X4_vi (by first | assumption | omega) (by first | assumption | omega)) ?_
        refine pw_iconst hX (k := 1) rfl (by decide) dX4_villagerOf_74 (q := 75) rfl ?_
        refine pw_icmpN_ne hX (by first | omega | exact bS0 hB | exact bSw hB (by omega) (by omega) (by omega) | exact bSe hB (by omega) (by omega) | exact bS1 hB | exact bS2 hB) (by first | omega | exact bS0 hB | exact bSw hB (by omega) (by omega) (by omega) | exact bSe hB (by omega) (by omega) | exact bS1 hB | exact bS2 hB) (tgt := 94) dX4_villagerOf_75 (q := 78) rfl (by decide) (fun h_75 => ?_) (fun h_75 => ?_)
        · refine pw_ldc hX cn_X4_80 dX4_villagerOf_94 (q := 96) rfl ?_
          refine pw_ireturn hX dX4_villagerOf_96 ⟨_, rfl, rfl⟩ ⟨congrArg (fun z => some (Value.int z)) ?_, ?_⟩
          · rw [mVOf, if_pos ⟨h_5, h_14⟩, hx, hxk, if_neg (by decide), if_neg (by decide), if_pos rfl]; first | rw [if_pos h_75] | rw [if_neg h_75]
          · rfl
        · refine pw_aload_n hX rfl dX4_villagerOf_78 (q := 79) rfl ?_
          refine pw_getMS hX 0 (by decide) fl_X4_7 rfl dX4_villagerOf_79 (q := 82) rfl ?_
          refine pw_iconst hX (k := 1) rfl (by decide) dX4_villagerOf_82 (q := 83) rfl ?_
          refine pw_ialdS hX (by omega) dX4_villagerOf_83 (q := 84) rfl ?_
          refine pw_aload_n hX rfl dX4_villagerOf_84 (q := 85) rfl ?_
          refine pw_iload_n hX rfl dX4_villagerOf_85 (q := 86) rfl ?_
          refine pw_iconst hX (k := 3) rfl (by decide) dX4_villagerOf_86 (q := 87) rfl ?_
          refine pw_cvI2 hX dX4_villagerOf_87 (q := 90) rfl mi_X4_vi ml_X4_37 rcM ⟨rfl, rfl, by decide, by decide⟩ rfl (Nat.le_of_ble_eq_true rfl) (c_X4_vi (by first | assumption | omega) (by first | assumption | omega)) ?_
          refine pw_isub hX dX4_villagerOf_90 (q := 91) rfl ?_
          refine pw_goto hX (tgt := 96) dX4_villagerOf_91 (by decide) ?_
          refine pw_ireturn hX dX4_villagerOf_96 ⟨_, rfl, rfl⟩ ⟨congrArg (fun z => some (Value.int z)) ?_, ?_⟩
          · rw [mVOf, if_pos ⟨h_5, h_14⟩, hx, hxk, if_neg (by decide), if_neg (by decide), if_pos rfl]; first | rw [if_pos h_75] | rw [if_neg h_75]
          · rfl
      · refine pw_tabOut hX (tgt := 97) dX4_villagerOf_21 (by decide) (by decide) ?_
        refine pw_aload_n hX rfl dX4_villagerOf_97 (q := 98) rfl ?_
        refine pw_iload_n hX rfl dX4_villagerOf_98 (q := 99) rfl ?_
        refine pw_iload_n hX rfl dX4_villagerOf_99 (q := 100) rfl ?_
        refine pw_cvI2 hX dX4_villagerOf_100 (q := 103) rfl mi_X4_vi ml_X4_37 rcM ⟨rfl, rfl, by decide, by decide⟩ rfl (Nat.le_of_ble_eq_true rfl) (c_X4_vi (by first | assumption | omega) (by first | assumption | omega)) ?_
        refine pw_ireturn hX dX4_villagerOf_103 ⟨_, rfl, rfl⟩ ⟨congrArg (fun z => some (Value.int z)) ?_, ?_⟩
        · rw [mVOf, if_pos ⟨h_5, h_14⟩, hx, hxk]; rfl
        · rfl
      · refine pw_tabOut hX (tgt := 97) dX4_villagerOf_21 (by decide) (by decide) ?_
        refine pw_aload_n hX rfl dX4_villagerOf_97 (q := 98) rfl ?_
        refine pw_iload_n hX rfl dX4_villagerOf_98 (q := 99) rfl ?_
        refine pw_iload_n hX rfl dX4_villagerOf_99 (q := 100) rfl ?_
        refine pw_cvI2 hX dX4_villagerOf_100 (q := 103) rfl mi_X4_vi ml_X4_37 rcM ⟨rfl, rfl, by decide, by decide⟩ rfl (Nat.le_of_ble_eq_true rfl) (c_X4_vi (by first | assumption | omega) (by first | assumption | omega)) ?_
        refine pw_ireturn hX dX4_villagerOf_103 ⟨_, rfl, rfl⟩ ⟨congrArg (fun z => some (Value.int z)) ?_, ?_⟩
        · rw [mVOf, if_pos ⟨h_5, h_14⟩, hx, hxk]; rfl
        · rfl
    · refine pw_ldc hX cn_X4_40 dX4_villagerOf_17 (q := 19) rfl ?_
      refine pw_ireturn hX dX4_villagerOf_19 ⟨_, rfl, rfl⟩ ⟨congrArg (fun z => some (Value.int z)) ?_, ?_⟩
      · rw [mVOf, if_neg (by rintro ⟨a1, a2⟩; simp_all)]
      · rfl
abbrev rm_X4_isNewer : Room := { frames := 0, cells := 0, slots := 0, locals := 0 }
set_option maxHeartbeats 4000000 in
set_option maxRecDepth 20000 in
theorem c_X4_isNewer {l : Launch} {g : Geo} {w : WD} {a b c d : Nat} (ha : a < 2 ^ 31) (hb : b < 2 ^ 31) (hc : c < 2 ^ 31) (hd : d < 2 ^ 31) : CtI l g yX4_isNewer cX4_isNewer 4 (some .boolean) rm_X4_isNewer [.int (nI a), .int (nI b), .int (nI c), .int (nI d)] (w) (bI (mNewer a b c d)) (w) := by
  refine ct_of mi_X4_isNewer.2.2.2.2 ⟨rfl, rfl⟩ (List.forall_mem_cons.mpr ⟨rfl, List.forall_mem_cons.mpr ⟨rfl, List.forall_mem_cons.mpr ⟨rfl, List.forall_mem_cons.mpr ⟨rfl, fun _ h => absurd h List.not_mem_nil⟩⟩⟩⟩) (Nat.le_of_ble_eq_true rfl) (fun P hX => ?_)
  replace hX : Gd l g RX4 cX4_isNewer rm_X4_isNewer 4 (some .boolean) _ _ P := hX
  show P (w) 0 [some (.int (nI a)), some (.int (nI b)), some (.int (nI c)), some (.int (nI d))] []
  refine pw_iload_n hX rfl dX4_isNewer_0 (q := 1) rfl ?_
  refine pw_iload_n hX rfl dX4_isNewer_1 (q := 2) rfl ?_
  refine pw_icmpN_gt hX (by omega) (by omega) (tgt := 15) dX4_isNewer_2 (q := 5) rfl (by decide) (fun h_2 => ?_) (fun h_2 => ?_)
  · refine pw_iconst hX (k := 1) rfl (by decide) dX4_isNewer_15 (q := 16) rfl ?_
    refine pw_goto hX (tgt := 20) dX4_isNewer_16 (by decide) ?_
    refine pw_ireturn hX dX4_isNewer_20 ⟨_, rfl, by first | exact bI_nar _ | decide | rfl⟩ ⟨congrArg (fun z => some (Value.int z)) ?_, ?_⟩
    · first | (rw [show mNewer a b c d = true from decide_eq_true (by omega)]; rfl) | (rw [show mNewer a b c d = false from decide_eq_false (by omega)]; rfl)
    · rfl
  · refine pw_iload_n hX rfl dX4_isNewer_5 (q := 6) rfl ?_
    refine pw_iload_n hX rfl dX4_isNewer_6 (q := 7) rfl ?_
    refine pw_icmpN_ne hX (by omega) (by omega) (tgt := 19) dX4_isNewer_7 (q := 10) rfl (by decide) (fun h_7 => ?_) (fun h_7 => ?_)
    · refine pw_iconst hX (k := 0) rfl (by decide) dX4_isNewer_19 (q := 20) rfl ?_
      refine pw_ireturn hX dX4_isNewer_20 ⟨_, rfl, by first | exact bI_nar _ | decide | rfl⟩ ⟨congrArg (fun z => some (Value.int z)) ?_, ?_⟩
      · first | (rw [show mNewer a b c d = true from decide_eq_true (by omega)]; rfl) | (rw [show mNewer a b c d = false from decide_eq_false (by omega)]; rfl)
      · rfl
    · refine pw_iload_n hX rfl dX4_isNewer_10 (q := 11) rfl ?_
      refine pw_iload_n hX rfl dX4_isNewer_11 (q := 12) rfl ?_
      refine pw_icmpN_le hX (by omega) (by omega) (tgt := 19) dX4_isNewer_12 (q := 15) rfl (by decide) (fun h_12 => ?_) (fun h_12 => ?_)
      · refine pw_iconst hX (k := 0) rfl (by decide) dX4_isNewer_19 (q := 20) rfl ?_
        refine pw_ireturn hX dX4_isNewer_20 ⟨_, rfl, by first | exact bI_nar _ | decide | rfl⟩ ⟨congrArg (fun z => some (Value.int z)) ?_, ?_⟩
        · first | (rw [show mNewer a b c d = true from decide_eq_true (by omega)]; rfl) | (rw [show mNewer a b c d = false from decide_eq_false (by omega)]; rfl)
        · rfl
      · refine pw_iconst hX (k := 1) rfl (by decide) dX4_isNewer_15 (q := 16) rfl ?_
        refine pw_goto hX (tgt := 20) dX4_isNewer_16 (by decide) ?_
        refine pw_ireturn hX dX4_isNewer_20 ⟨_, rfl, by first | exact bI_nar _ | decide | rfl⟩ ⟨congrArg (fun z => some (Value.int z)) ?_, ?_⟩
        · first | (rw [show mNewer a b c d = true from decide_eq_true (by omega)]; rfl) | (rw [show mNewer a b c d = false from decide_eq_false (by omega)]; rfl)
        · rfl
abbrev rm_X4_hasNewer : Room := { frames := 2, cells := 0, slots := 0, locals := 44 }
set_option maxHeartbeats 4000000 in
set_option maxRecDepth 20000 in
theorem c_X4_hasNewer {l : Launch} {g : Geo} {w : WD} {V : Nat → Nat → Nat} {S : Nat → Nat} {o p t : Nat} (ho : o < 7) (hp : p < 7) (ht : t < 12) (hB : bS S) : CtI l g yX4_hasNewer cX4_hasNewer 4 (some .boolean) rm_X4_hasNewer [.ref (g_ad g 9 0), .int (nI o), .int (nI p), .int (nI t)] (mW w V S) (bI (mHN S o p t)) (mW w V S) := by
  refine ct_of mi_X4_hasNewer.2.2.2.2.2 ⟨rfl, rfl⟩ (List.forall_mem_cons.mpr ⟨rfl, List.forall_mem_cons.mpr ⟨rfl, List.forall_mem_cons.mpr ⟨rfl, List.forall_mem_cons.mpr ⟨rfl, fun _ h => absurd h List.not_mem_nil⟩⟩⟩⟩) (Nat.le_of_ble_eq_true rfl) (fun P hX => ?_)
  replace hX : Gd l g RX4 cX4_hasNewer rm_X4_hasNewer 4 (some .boolean) _ _ P := hX
  show P (mW w V S) 0 [some (.ref (g_ad g 9 0)), some (.int (nI o)), some (.int (nI p)), some (.int (nI t))] []
  have h7 := hB.2.2.1
  refine pw_aload_n hX rfl dX4_hasNewer_0 (q := 1) rfl ?_
  refine pw_iload_n hX rfl dX4_hasNewer_1 (q := 2) rfl ?_
  refine pw_iload_n hX rfl dX4_hasNewer_2 (q := 3) rfl ?_
  refine pw_iconst hX (k := 0) rfl (by decide) dX4_hasNewer_3 (q := 4) rfl ?_
  refine pw_cvI3 hX dX4_hasNewer_4 (q := 7) rfl mi_X4_en ml_X4_73 rcM ⟨rfl, rfl, by decide, by decide⟩ rfl (Nat.le_of_ble_eq_true rfl) (c_X4_en (by first | assumption | omega) (by first | assumption | omega) (by first | assumption | omega)) ?_
  refine pw_ifN_eq hX (by first | omega | exact bS0 hB | exact bSw hB (by omega) (by omega) (by omega) | exact bSe hB (by omega) (by omega) | exact bS1 hB | exact bS2 hB) (tgt := 20) dX4_hasNewer_7 (q := 10) rfl (by decide) (fun h_7 => ?_) (fun h_7 => ?_)
  · refine pw_aload_n hX rfl dX4_hasNewer_20 (q := 21) rfl ?_
    refine pw_iload_n hX rfl dX4_hasNewer_21 (q := 22) rfl ?_
    refine pw_iload_n hX rfl dX4_hasNewer_22 (q := 23) rfl ?_
    refine pw_iconst hX (k := 0) rfl (by decide) dX4_hasNewer_23 (q := 24) rfl ?_
    refine pw_cvI3 hX dX4_hasNewer_24 (q := 27) rfl mi_X4_en ml_X4_73 rcM ⟨rfl, rfl, by decide, by decide⟩ rfl (Nat.le_of_ble_eq_true rfl) (c_X4_en (by first | assumption | omega) (by first | assumption | omega) (by first | assumption | omega)) ?_
    refine pw_ifN_eq hX (by first | omega | exact bS0 hB | exact bSw hB (by omega) (by omega) (by omega) | exact bSe hB (by omega) (by omega) | exact bS1 hB | exact bS2 hB) (tgt := 44) dX4_hasNewer_27 (q := 30) rfl (by decide) (fun h_27 => ?_) (fun h_27 => ?_)
    · refine pw_iconst hX (k := 0) rfl (by decide) dX4_hasNewer_44 (q := 45) rfl ?_
      refine pw_ireturn hX dX4_hasNewer_45 ⟨_, rfl, by first | exact bI_nar _ | decide | rfl⟩ ⟨congrArg (fun z => some (Value.int z)) ?_, ?_⟩
      · unfold mHN; rw [if_pos (by omega)]; first | (rw [decide_eq_true (by omega)]; rfl) | (rw [decide_eq_false (by omega)]; rfl)
      · rfl
    · refine pw_aload_n hX rfl dX4_hasNewer_30 (q := 31) rfl ?_
      refine pw_iload_n hX rfl dX4_hasNewer_31 (q := 32) rfl ?_
      refine pw_iload_n hX rfl dX4_hasNewer_32 (q := 33) rfl ?_
      refine pw_iconst hX (k := 0) rfl (by decide) dX4_hasNewer_33 (q := 34) rfl ?_
      refine pw_cvI3 hX dX4_hasNewer_34 (q := 37) rfl mi_X4_en ml_X4_73 rcM ⟨rfl, rfl, by decide, by decide⟩ rfl (Nat.le_of_ble_eq_true rfl) (c_X4_en (by first | assumption | omega) (by first | assumption | omega) (by first | assumption | omega)) ?_
      refine pw_ifN_ne hX (by first | omega | exact bS0 hB | exact bSw hB (by omega) (by omega) (by omega) | exact bSe hB (by omega) (by omega) | exact bS1 hB | exact bS2 hB) (tgt := 44) dX4_hasNewer_37 (q := 40) rfl (by decide) (fun h_37 => ?_) (fun h_37 => ?_)
      · refine pw_iconst hX (k := 0) rfl (by decide) dX4_hasNewer_44 (q := 45) rfl ?_
        refine pw_ireturn hX dX4_hasNewer_45 ⟨_, rfl, by first | exact bI_nar _ | decide | rfl⟩ ⟨congrArg (fun z => some (Value.int z)) ?_, ?_⟩
        · unfold mHN; rw [if_pos (by omega)]; first | (rw [decide_eq_true (by omega)]; rfl) | (rw [decide_eq_false (by omega)]; rfl)
        · rfl
      · refine pw_iconst hX (k := 1) rfl (by decide) dX4_hasNewer_40 (q := 41) rfl ?_
        refine pw_goto hX (tgt := 45) dX4_hasNewer_41 (by decide) ?_
        refine pw_ireturn hX dX4_hasNewer_45 ⟨_, rfl, by first | exact bI_nar _ | decide | rfl⟩ ⟨congrArg (fun z => some (Value.int z)) ?_, ?_⟩
        · unfold mHN; rw [if_pos (by omega)]; first | (rw [decide_eq_true (by omega)]; rfl) | (rw [decide_eq_false (by omega)]; rfl)
        · rfl
  · refine pw_aload_n hX rfl dX4_hasNewer_10 (q := 11) rfl ?_
    refine pw_iload_n hX rfl dX4_hasNewer_11 (q := 12) rfl ?_
    refine pw_iload_n hX rfl dX4_hasNewer_12 (q := 13) rfl ?_
    refine pw_iconst hX (k := 0) rfl (by decide) dX4_hasNewer_13 (q := 14) rfl ?_
    refine pw_cvI3 hX dX4_hasNewer_14 (q := 17) rfl mi_X4_en ml_X4_73 rcM ⟨rfl, rfl, by decide, by decide⟩ rfl (Nat.le_of_ble_eq_true rfl) (c_X4_en (by first | assumption | omega) (by first | assumption | omega) (by first | assumption | omega)) ?_
    refine pw_ifN_ne hX (by first | omega | exact bS0 hB | exact bSw hB (by omega) (by omega) (by omega) | exact bSe hB (by omega) (by omega) | exact bS1 hB | exact bS2 hB) (tgt := 46) dX4_hasNewer_17 (q := 20) rfl (by decide) (fun h_17 => ?_) (fun h_17 => ?_)
    · refine pw_aload_n hX rfl dX4_hasNewer_46 (q := 47) rfl ?_
      refine pw_iload_n hX rfl dX4_hasNewer_47 (q := 48) rfl ?_
      refine pw_iload_n hX rfl dX4_hasNewer_48 (q := 49) rfl ?_
      refine pw_iconst hX (k := 1) rfl (by decide) dX4_hasNewer_49 (q := 50) rfl ?_
      refine pw_cvI3 hX dX4_hasNewer_50 (q := 53) rfl mi_X4_en ml_X4_73 rcM ⟨rfl, rfl, by decide, by decide⟩ rfl (Nat.le_of_ble_eq_true rfl) (c_X4_en (by first | assumption | omega) (by first | assumption | omega) (by first | assumption | omega)) ?_
      refine pw_aload_n hX rfl dX4_hasNewer_53 (q := 54) rfl ?_
      refine pw_iload_n hX rfl dX4_hasNewer_54 (q := 55) rfl ?_
      refine pw_iload_n hX rfl dX4_hasNewer_55 (q := 56) rfl ?_
      refine pw_iconst hX (k := 2) rfl (by decide) dX4_hasNewer_56 (q := 57) rfl ?_
      refine pw_cvI3 hX dX4_hasNewer_57 (q := 60) rfl mi_X4_en ml_X4_73 rcM ⟨rfl, rfl, by decide, by decide⟩ rfl (Nat.le_of_ble_eq_true rfl) (c_X4_en (by first | assumption | omega) (by first | assumption | omega) (by first | assumption | omega)) ?_
      refine pw_aload_n hX rfl dX4_hasNewer_60 (q := 61) rfl ?_
      refine pw_iload_n hX rfl dX4_hasNewer_61 (q := 62) rfl ?_
      refine pw_iload_n hX rfl dX4_hasNewer_62 (q := 63) rfl ?_
      refine pw_iconst hX (k := 1) rfl (by decide) dX4_hasNewer_63 (q := 64) rfl ?_
      refine pw_cvI3 hX dX4_hasNewer_64 (q := 67) rfl mi_X4_en ml_X4_73 rcM ⟨rfl, rfl, by decide, by decide⟩ rfl (Nat.le_of_ble_eq_true rfl) (c_X4_en (by first | assumption | omega) (by first | assumption | omega) (by first | assumption | omega)) ?_
      refine pw_aload_n hX rfl dX4_hasNewer_67 (q := 68) rfl ?_
      refine pw_iload_n hX rfl dX4_hasNewer_68 (q := 69) rfl ?_
      refine pw_iload_n hX rfl dX4_hasNewer_69 (q := 70) rfl ?_
      refine pw_iconst hX (k := 2) rfl (by decide) dX4_hasNewer_70 (q := 71) rfl ?_
      refine pw_cvI3 hX dX4_hasNewer_71 (q := 74) rfl mi_X4_en ml_X4_73 rcM ⟨rfl, rfl, by decide, by decide⟩ rfl (Nat.le_of_ble_eq_true rfl) (c_X4_en (by first | assumption | omega) (by first | assumption | omega) (by first | assumption | omega)) ?_
      refine pw_csI4 hX dX4_hasNewer_74 (q := 77) rfl mi_X4_isNewer ml_X4_81 ⟨rfl, rfl, by decide, by decide⟩ rfl (Nat.le_of_ble_eq_true rfl) (c_X4_isNewer (bSe hB (by omega) (by omega)) (bSe hB (by omega) (by omega)) (bSe hB (by omega) (by omega)) (bSe hB (by omega) (by omega))) ?_
      refine pw_ireturn hX dX4_hasNewer_77 ⟨_, rfl, by first | exact bI_nar _ | decide | rfl⟩ ⟨congrArg (fun z => some (Value.int z)) ?_, ?_⟩
      · unfold mHN; rw [if_neg (by omega)]
      · rfl
    · refine pw_aload_n hX rfl dX4_hasNewer_20 (q := 21) rfl ?_
      refine pw_iload_n hX rfl dX4_hasNewer_21 (q := 22) rfl ?_
      refine pw_iload_n hX rfl dX4_hasNewer_22 (q := 23) rfl ?_
      refine pw_iconst hX (k := 0) rfl (by decide) dX4_hasNewer_23 (q := 24) rfl ?_
      refine pw_cvI3 hX dX4_hasNewer_24 (q := 27) rfl mi_X4_en ml_X4_73 rcM ⟨rfl, rfl, by decide, by decide⟩ rfl (Nat.le_of_ble_eq_true rfl) (c_X4_en (by first | assumption | omega) (by first | assumption | omega) (by first | assumption | omega)) ?_
      refine pw_ifN_eq hX (by first | omega | exact bS0 hB | exact bSw hB (by omega) (by omega) (by omega) | exact bSe hB (by omega) (by omega) | exact bS1 hB | exact bS2 hB) (tgt := 44) dX4_hasNewer_27 (q := 30) rfl (by decide) (fun h_27 => ?_) (fun h_27 => ?_)
      · refine pw_iconst hX (k := 0) rfl (by decide) dX4_hasNewer_44 (q := 45) rfl ?_
        refine pw_ireturn hX dX4_hasNewer_45 ⟨_, rfl, by first | exact bI_nar _ | decide | rfl⟩ ⟨congrArg (fun z => some (Value.int z)) ?_, ?_⟩
        · unfold mHN; rw [if_pos (by omega)]; first | (rw [decide_eq_true (by omega)]; rfl) | (rw [decide_eq_false (by omega)]; rfl)
        · rfl
      · refine pw_aload_n hX rfl dX4_hasNewer_30 (q := 31) rfl ?_
        refine pw_iload_n hX rfl dX4_hasNewer_31 (q := 32) rfl ?_
        refine pw_iload_n hX rfl dX4_hasNewer_32 (q := 33) rfl ?_
        refine pw_iconst hX (k := 0) rfl (by decide) dX4_hasNewer_33 (q := 34) rfl ?_
        refine pw_cvI3 hX dX4_hasNewer_34 (q := 37) rfl mi_X4_en ml_X4_73 rcM ⟨rfl, rfl, by decide, by decide⟩ rfl (Nat.le_of_ble_eq_true rfl) (c_X4_en (by first | assumption | omega) (by first | assumption | omega) (by first | assumption | omega)) ?_
        refine pw_ifN_ne hX (by first | omega | exact bS0 hB | exact bSw hB (by omega) (by omega) (by omega) | exact bSe hB (by omega) (by omega) | exact bS1 hB | exact bS2 hB) (tgt := 44) dX4_hasNewer_37 (q := 40) rfl (by decide) (fun h_37 => ?_) (fun h_37 => ?_)
        · refine pw_iconst hX (k := 0) rfl (by decide) dX4_hasNewer_44 (q := 45) rfl ?_
          refine pw_ireturn hX dX4_hasNewer_45 ⟨_, rfl, by first | exact bI_nar _ | decide | rfl⟩ ⟨congrArg (fun z => some (Value.int z)) ?_, ?_⟩
          · unfold mHN; rw [if_pos (by omega)]; first | (rw [decide_eq_true (by omega)]; rfl) | (rw [decide_eq_false (by omega)]; rfl)
          · rfl
        · refine pw_iconst hX (k := 1) rfl (by decide) dX4_hasNewer_40 (q := 41) rfl ?_
          refine pw_goto hX (tgt := 45) dX4_hasNewer_41 (by decide) ?_
          refine pw_ireturn hX dX4_hasNewer_45 ⟨_, rfl, by first | exact bI_nar _ | decide | rfl⟩ ⟨congrArg (fun z => some (Value.int z)) ?_, ?_⟩
          · unfold mHN; rw [if_pos (by omega)]; first | (rw [decide_eq_true (by omega)]; rfl) | (rw [decide_eq_false (by omega)]; rfl)
          · rfl
abbrev rm_X4_areSame : Room := { frames := 3, cells := 0, slots := 0, locals := 67 }
set_option maxHeartbeats 4000000 in
set_option maxRecDepth 20000 in
theorem c_X4_areSame {l : Launch} {g : Geo} {w : WD} {V : Nat → Nat → Nat} {S : Nat → Nat} {o p t : Nat} (ho : o < 7) (hp : p < 7) (ht : t < 12) (hB : bS S) : CtI l g yX4_areSame cX4_areSame 4 (some .boolean) rm_X4_areSame [.ref (g_ad g 9 0), .int (nI o), .int (nI p), .int (nI t)] (mW w V S) (bI (mSame S o p t)) (mW w V S) := by
  refine ct_of mi_X4_areSame.2.2.2.2.2 ⟨rfl, rfl⟩ (List.forall_mem_cons.mpr ⟨rfl, List.forall_mem_cons.mpr ⟨rfl, List.forall_mem_cons.mpr ⟨rfl, List.forall_mem_cons.mpr ⟨rfl, fun _ h => absurd h List.not_mem_nil⟩⟩⟩⟩) (Nat.le_of_ble_eq_true rfl) (fun P hX => ?_)
  replace hX : Gd l g RX4 cX4_areSame rm_X4_areSame 4 (some .boolean) _ _ P := hX
  show P (mW w V S) 0 [some (.ref (g_ad g 9 0)), some (.int (nI o)), some (.int (nI p)), some (.int (nI t))] []
  have h7 := hB.2.2.1
  refine pw_aload_n hX rfl dX4_areSame_0 (q := 1) rfl ?_
  refine pw_iload_n hX rfl dX4_areSame_1 (q := 2) rfl ?_
  refine pw_iload_n hX rfl dX4_areSame_2 (q := 3) rfl ?_
  refine pw_iconst hX (k := 0) rfl (by decide) dX4_areSame_3 (q := 4) rfl ?_
  refine pw_cvI3 hX dX4_areSame_4 (q := 7) rfl mi_X4_en ml_X4_73 rcM ⟨rfl, rfl, by decide, by decide⟩ rfl (Nat.le_of_ble_eq_true rfl) (c_X4_en (by first | assumption | omega) (by first | assumption | omega) (by first | assumption | omega)) ?_
  refine pw_ifN_ne hX (by first | omega | exact bS0 hB | exact bSw hB (by omega) (by omega) (by omega) | exact bSe hB (by omega) (by omega) | exact bS1 hB | exact bS2 hB) (tgt := 14) dX4_areSame_7 (q := 10) rfl (by decide) (fun h_7 => ?_) (fun h_7 => ?_)
  · refine pw_iconst hX (k := 0) rfl (by decide) dX4_areSame_14 (q := 15) rfl ?_
    refine pw_aload_n hX rfl dX4_areSame_15 (q := 16) rfl ?_
    refine pw_iload_n hX rfl dX4_areSame_16 (q := 17) rfl ?_
    refine pw_iload_n hX rfl dX4_areSame_17 (q := 18) rfl ?_
    refine pw_iconst hX (k := 0) rfl (by decide) dX4_areSame_18 (q := 19) rfl ?_
    refine pw_cvI3 hX dX4_areSame_19 (q := 22) rfl mi_X4_en ml_X4_73 rcM ⟨rfl, rfl, by decide, by decide⟩ rfl (Nat.le_of_ble_eq_true rfl) (c_X4_en (by first | assumption | omega) (by first | assumption | omega) (by first | assumption | omega)) ?_
    refine pw_ifN_ne hX (by first | omega | exact bS0 hB | exact bSw hB (by omega) (by omega) (by omega) | exact bSe hB (by omega) (by omega) | exact bS1 hB | exact bS2 hB) (tgt := 29) dX4_areSame_22 (q := 25) rfl (by decide) (fun h_22 => ?_) (fun h_22 => ?_)
    · refine pw_iconst hX (k := 0) rfl (by decide) dX4_areSame_29 (q := 30) rfl ?_
      refine pw_icmpN_ne hX (by first | omega | exact bS0 hB | exact bSw hB (by omega) (by omega) (by omega) | exact bSe hB (by omega) (by omega) | exact bS1 hB | exact bS2 hB) (by first | omega | exact bS0 hB | exact bSw hB (by omega) (by omega) (by omega) | exact bSe hB (by omega) (by omega) | exact bS1 hB | exact bS2 hB) (tgt := 57) dX4_areSame_30 (q := 33) rfl (by decide) (fun h_30 => ?_) (fun h_30 => ?_)
      · refine pw_iconst hX (k := 0) rfl (by decide) dX4_areSame_57 (q := 58) rfl ?_
        refine pw_ireturn hX dX4_areSame_58 ⟨_, rfl, by first | exact bI_nar _ | decide | rfl⟩ ⟨congrArg (fun z => some (Value.int z)) ?_, ?_⟩
        · first | (exfalso; omega) | (rw [show mSame S o p t = true by simp_all [mSame]]; rfl) | (rw [show mSame S o p t = false by simp_all [mSame]]; rfl)
        · rfl
      · refine pw_aload_n hX rfl dX4_areSame_33 (q := 34) rfl ?_
        refine pw_iload_n hX rfl dX4_areSame_34 (q := 35) rfl ?_
        refine pw_iload_n hX rfl dX4_areSame_35 (q := 36) rfl ?_
        refine pw_iload_n hX rfl dX4_areSame_36 (q := 37) rfl ?_
        refine pw_cvI3 hX dX4_areSame_37 (q := 40) rfl mi_X4_hasNewer ml_X4_85 rcM ⟨rfl, rfl, by decide, by decide⟩ rfl (Nat.le_of_ble_eq_true rfl) (c_X4_hasNewer (by first | assumption | omega) (by first | assumption | omega) (by first | assumption | omega) (by first | assumption | omega)) ?_
        refine pw_ifB_ne hX (tgt := 57) dX4_areSame_40 (q := 43) rfl (by decide) (fun h_40 => ?_) (fun h_40 => ?_)
        · refine pw_iconst hX (k := 0) rfl (by decide) dX4_areSame_57 (q := 58) rfl ?_
          refine pw_ireturn hX dX4_areSame_58 ⟨_, rfl, by first | exact bI_nar _ | decide | rfl⟩ ⟨congrArg (fun z => some (Value.int z)) ?_, ?_⟩
          · first | (exfalso; omega) | (rw [show mSame S o p t = true by simp_all [mSame]]; rfl) | (rw [show mSame S o p t = false by simp_all [mSame]]; rfl)
          · rfl
        · refine pw_aload_n hX rfl dX4_areSame_43 (q := 44) rfl ?_
          refine pw_iload_n hX rfl dX4_areSame_44 (q := 45) rfl ?_
          refine pw_iload_n hX rfl dX4_areSame_45 (q := 46) rfl ?_
          refine pw_iload_n hX rfl dX4_areSame_46 (q := 47) rfl ?_
          refine pw_cvI3 hX dX4_areSame_47 (q := 50) rfl mi_X4_hasNewer ml_X4_85 rcM ⟨rfl, rfl, by decide, by decide⟩ rfl (Nat.le_of_ble_eq_true rfl) (c_X4_hasNewer (by first | assumption | omega) (by first | assumption | omega) (by first | assumption | omega) (by first | assumption | omega)) ?_
          refine pw_ifB_ne hX (tgt := 57) dX4_areSame_50 (q := 53) rfl (by decide) (fun h_50 => ?_) (fun h_50 => ?_)
          · refine pw_iconst hX (k := 0) rfl (by decide) dX4_areSame_57 (q := 58) rfl ?_
            refine pw_ireturn hX dX4_areSame_58 ⟨_, rfl, by first | exact bI_nar _ | decide | rfl⟩ ⟨congrArg (fun z => some (Value.int z)) ?_, ?_⟩
            · first | (exfalso; omega) | (rw [show mSame S o p t = true by simp_all [mSame]]; rfl) | (rw [show mSame S o p t = false by simp_all [mSame]]; rfl)
            · rfl
          · refine pw_iconst hX (k := 1) rfl (by decide) dX4_areSame_53 (q := 54) rfl ?_
            refine pw_goto hX (tgt := 58) dX4_areSame_54 (by decide) ?_
            refine pw_ireturn hX dX4_areSame_58 ⟨_, rfl, by first | exact bI_nar _ | decide | rfl⟩ ⟨congrArg (fun z => some (Value.int z)) ?_, ?_⟩
            · first | (exfalso; omega) | (rw [show mSame S o p t = true by simp_all [mSame]]; rfl) | (rw [show mSame S o p t = false by simp_all [mSame]]; rfl)
            · rfl
    · refine pw_iconst hX (k := 1) rfl (by decide) dX4_areSame_25 (q := 26) rfl ?_
      refine pw_goto hX (tgt := 30) dX4_areSame_26 (by decide) ?_
      refine pw_icmpN_ne hX (by first | omega | exact bS0 hB | exact bSw hB (by omega) (by omega) (by omega) | exact bSe hB (by omega) (by omega) | exact bS1 hB | exact bS2 hB) (by first | omega | exact bS0 hB | exact bSw hB (by omega) (by omega) (by omega) | exact bSe hB (by omega) (by omega) | exact bS1 hB | exact bS2 hB) (tgt := 57) dX4_areSame_30 (q := 33) rfl (by decide) (fun h_30 => ?_) (fun h_30 => ?_)
      · refine pw_iconst hX (k := 0) rfl (by decide) dX4_areSame_57 (q := 58) rfl ?_
        refine pw_ireturn hX dX4_areSame_58 ⟨_, rfl, by first | exact bI_nar _ | decide | rfl⟩ ⟨congrArg (fun z => some (Value.int z)) ?_, ?_⟩
        · first | (exfalso; omega) | (rw [show mSame S o p t = true by simp_all [mSame]]; rfl) | (rw [show mSame S o p t = false by simp_all [mSame]]; rfl)
        · rfl
      · refine pw_aload_n hX rfl dX4_areSame_33 (q := 34) rfl ?_
        refine pw_iload_n hX rfl dX4_areSame_34 (q := 35) rfl ?_
        refine pw_iload_n hX rfl dX4_areSame_35 (q := 36) rfl ?_
        refine pw_iload_n hX rfl dX4_areSame_36 (q := 37) rfl ?_
        refine pw_cvI3 hX dX4_areSame_37 (q := 40) rfl mi_X4_hasNewer ml_X4_85 rcM ⟨rfl, rfl, by decide, by decide⟩ rfl (Nat.le_of_ble_eq_true rfl) (c_X4_hasNewer (by first | assumption | omega) (by first | assumption | omega) (by first | assumption | omega) (by first | assumption | omega)) ?_
        refine pw_ifB_ne hX (tgt := 57) dX4_areSame_40 (q := 43) rfl (by decide) (fun h_40 => ?_) (fun h_40 => ?_)
        · refine pw_iconst hX (k := 0) rfl (by decide) dX4_areSame_57 (q := 58) rfl ?_
          refine pw_ireturn hX dX4_areSame_58 ⟨_, rfl, by first | exact bI_nar _ | decide | rfl⟩ ⟨congrArg (fun z => some (Value.int z)) ?_, ?_⟩
          · first | (exfalso; omega) | (rw [show mSame S o p t = true by simp_all [mSame]]; rfl) | (rw [show mSame S o p t = false by simp_all [mSame]]; rfl)
          · rfl
        · refine pw_aload_n hX rfl dX4_areSame_43 (q := 44) rfl ?_
          refine pw_iload_n hX rfl dX4_areSame_44 (q := 45) rfl ?_
          refine pw_iload_n hX rfl dX4_areSame_45 (q := 46) rfl ?_
          refine pw_iload_n hX rfl dX4_areSame_46 (q := 47) rfl ?_
          refine pw_cvI3 hX dX4_areSame_47 (q := 50) rfl mi_X4_hasNewer ml_X4_85 rcM ⟨rfl, rfl, by decide, by decide⟩ rfl (Nat.le_of_ble_eq_true rfl) (c_X4_hasNewer (by first | assumption | omega) (by first | assumption | omega) (by first | assumption | omega) (by first | assumption | omega)) ?_
          refine pw_ifB_ne hX (tgt := 57) dX4_areSame_50 (q := 53) rfl (by decide) (fun h_50 => ?_) (fun h_50 => ?_)
          · refine pw_iconst hX (k := 0) rfl (by decide) dX4_areSame_57 (q := 58) rfl ?_
            refine pw_ireturn hX dX4_areSame_58 ⟨_, rfl, by first | exact bI_nar _ | decide | rfl⟩ ⟨congrArg (fun z => some (Value.int z)) ?_, ?_⟩
            · first | (exfalso; omega) | (rw [show mSame S o p t = true by simp_all [mSame]]; rfl) | (rw [show mSame S o p t = false by simp_all [mSame]]; rfl)
            · rfl
          · refine pw_iconst hX (k := 1) rfl (by decide) dX4_areSame_53 (q := 54) rfl ?_
            refine pw_goto hX (tgt := 58) dX4_areSame_54 (by decide) ?_
            refine pw_ireturn hX dX4_areSame_58 ⟨_, rfl, by first | exact bI_nar _ | decide | rfl⟩ ⟨congrArg (fun z => some (Value.int z)) ?_, ?_⟩
            · first | (exfalso; omega) | (rw [show mSame S o p t = true by simp_all [mSame]]; rfl) | (rw [show mSame S o p t = false by simp_all [mSame]]; rfl)
            · rfl
  · refine pw_iconst hX (k := 1) rfl (by decide) dX4_areSame_10 (q := 11) rfl ?_
    refine pw_goto hX (tgt := 15) dX4_areSame_11 (by decide) ?_
    refine pw_aload_n hX rfl dX4_areSame_15 (q := 16) rfl ?_
    refine pw_iload_n hX rfl dX4_areSame_16 (q := 17) rfl ?_
    refine pw_iload_n hX rfl dX4_areSame_17 (q := 18) rfl ?_
    refine pw_iconst hX (k := 0) rfl (by decide) dX4_areSame_18 (q := 19) rfl ?_
    refine pw_cvI3 hX dX4_areSame_19 (q := 22) rfl mi_X4_en ml_X4_73 rcM ⟨rfl, rfl, by decide, by decide⟩ rfl (Nat.le_of_ble_eq_true rfl) (c_X4_en (by first | assumption | omega) (by first | assumption | omega) (by first | assumption | omega)) ?_
    refine pw_ifN_ne hX (by first | omega | exact bS0 hB | exact bSw hB (by omega) (by omega) (by omega) | exact bSe hB (by omega) (by omega) | exact bS1 hB | exact bS2 hB) (tgt := 29) dX4_areSame_22 (q := 25) rfl (by decide) (fun h_22 => ?_) (fun h_22 => ?_)
    · refine pw_iconst hX (k := 0) rfl (by decide) dX4_areSame_29 (q := 30) rfl ?_
      refine pw_icmpN_ne hX (by first | omega | exact bS0 hB | exact bSw hB (by omega) (by omega) (by omega) | exact bSe hB (by omega) (by omega) | exact bS1 hB | exact bS2 hB) (by first | omega | exact bS0 hB | exact bSw hB (by omega) (by omega) (by omega) | exact bSe hB (by omega) (by omega) | exact bS1 hB | exact bS2 hB) (tgt := 57) dX4_areSame_30 (q := 33) rfl (by decide) (fun h_30 => ?_) (fun h_30 => ?_)
      · refine pw_iconst hX (k := 0) rfl (by decide) dX4_areSame_57 (q := 58) rfl ?_
        refine pw_ireturn hX dX4_areSame_58 ⟨_, rfl, by first | exact bI_nar _ | decide | rfl⟩ ⟨congrArg (fun z => some (Value.int z)) ?_, ?_⟩
        · first | (exfalso; omega) | (rw [show mSame S o p t = true by simp_all [mSame]]; rfl) | (rw [show mSame S o p t = false by simp_all [mSame]]; rfl)
        · rfl
      · refine pw_aload_n hX rfl dX4_areSame_33 (q := 34) rfl ?_
        refine pw_iload_n hX rfl dX4_areSame_34 (q := 35) rfl ?_
        refine pw_iload_n hX rfl dX4_areSame_35 (q := 36) rfl ?_
        refine pw_iload_n hX rfl dX4_areSame_36 (q := 37) rfl ?_
        refine pw_cvI3 hX dX4_areSame_37 (q := 40) rfl mi_X4_hasNewer ml_X4_85 rcM ⟨rfl, rfl, by decide, by decide⟩ rfl (Nat.le_of_ble_eq_true rfl) (c_X4_hasNewer (by first | assumption | omega) (by first | assumption | omega) (by first | assumption | omega) (by first | assumption | omega)) ?_
        refine pw_ifB_ne hX (tgt := 57) dX4_areSame_40 (q := 43) rfl (by decide) (fun h_40 => ?_) (fun h_40 => ?_)
        · refine pw_iconst hX (k := 0) rfl (by decide) dX4_areSame_57 (q := 58) rfl ?_
          refine pw_ireturn hX dX4_areSame_58 ⟨_, rfl, by first | exact bI_nar _ | decide | rfl⟩ ⟨congrArg (fun z => some (Value.int z)) ?_, ?_⟩
          · first | (exfalso; omega) | (rw [show mSame S o p t = true by simp_all [mSame]]; rfl) | (rw [show mSame S o p t = false by simp_all [mSame]]; rfl)
          · rfl
        · refine pw_aload_n hX rfl dX4_areSame_43 (q := 44) rfl ?_
          refine pw_iload_n hX rfl dX4_areSame_44 (q := 45) rfl ?_
          refine pw_iload_n hX rfl dX4_areSame_45 (q := 46) rfl ?_
          refine pw_iload_n hX rfl dX4_areSame_46 (q := 47) rfl ?_
          refine pw_cvI3 hX dX4_areSame_47 (q := 50) rfl mi_X4_hasNewer ml_X4_85 rcM ⟨rfl, rfl, by decide, by decide⟩ rfl (Nat.le_of_ble_eq_true rfl) (c_X4_hasNewer (by first | assumption | omega) (by first | assumption | omega) (by first | assumption | omega) (by first | assumption | omega)) ?_
          refine pw_ifB_ne hX (tgt := 57) dX4_areSame_50 (q := 53) rfl (by decide) (fun h_50 => ?_) (fun h_50 => ?_)
          · refine pw_iconst hX (k := 0) rfl (by decide) dX4_areSame_57 (q := 58) rfl ?_
            refine pw_ireturn hX dX4_areSame_58 ⟨_, rfl, by first | exact bI_nar _ | decide | rfl⟩ ⟨congrArg (fun z => some (Value.int z)) ?_, ?_⟩
            · first | (exfalso; omega) | (rw [show mSame S o p t = true by simp_all [mSame]]; rfl) | (rw [show mSame S o p t = false by simp_all [mSame]]; rfl)
            · rfl
          · refine pw_iconst hX (k := 1) rfl (by decide) dX4_areSame_53 (q := 54) rfl ?_
            refine pw_goto hX (tgt := 58) dX4_areSame_54 (by decide) ?_
            refine pw_ireturn hX dX4_areSame_58 ⟨_, rfl, by first | exact bI_nar _ | decide | rfl⟩ ⟨congrArg (fun z => some (Value.int z)) ?_, ?_⟩
            · first | (exfalso; omega) | (rw [show mSame S o p t = true by simp_all [mSame]]; rfl) | (rw [show mSame S o p t = false by simp_all [mSame]]; rfl)
            · rfl
    · refine pw_iconst hX (k := 1) rfl (by decide) dX4_areSame_25 (q := 26) rfl ?_
      refine pw_goto hX (tgt := 30) dX4_areSame_26 (by decide) ?_
      refine pw_icmpN_ne hX (by first | omega | exact bS0 hB | exact bSw hB (by omega) (by omega) (by omega) | exact bSe hB (by omega) (by omega) | exact bS1 hB | exact bS2 hB) (by first | omega | exact bS0 hB | exact bSw hB (by omega) (by omega) (by omega) | exact bSe hB (by omega) (by omega) | exact bS1 hB | exact bS2 hB) (tgt := 57) dX4_areSame_30 (q := 33) rfl (by decide) (fun h_30 => ?_) (fun h_30 => ?_)
      · refine pw_iconst hX (k := 0) rfl (by decide) dX4_areSame_57 (q := 58) rfl ?_
        refine pw_ireturn hX dX4_areSame_58 ⟨_, rfl, by first | exact bI_nar _ | decide | rfl⟩ ⟨congrArg (fun z => some (Value.int z)) ?_, ?_⟩
        · first | (exfalso; omega) | (rw [show mSame S o p t = true by simp_all [mSame]]; rfl) | (rw [show mSame S o p t = false by simp_all [mSame]]; rfl)
        · rfl
      · refine pw_aload_n hX rfl dX4_areSame_33 (q := 34) rfl ?_
        refine pw_iload_n hX rfl dX4_areSame_34 (q := 35) rfl ?_
        refine pw_iload_n hX rfl dX4_areSame_35 (q := 36) rfl ?_
        refine pw_iload_n hX rfl dX4_areSame_36 (q := 37) rfl ?_
        refine pw_cvI3 hX dX4_areSame_37 (q := 40) rfl mi_X4_hasNewer ml_X4_85 rcM ⟨rfl, rfl, by decide, by decide⟩ rfl (Nat.le_of_ble_eq_true rfl) (c_X4_hasNewer (by first | assumption | omega) (by first | assumption | omega) (by first | assumption | omega) (by first | assumption | omega)) ?_
        refine pw_ifB_ne hX (tgt := 57) dX4_areSame_40 (q := 43) rfl (by decide) (fun h_40 => ?_) (fun h_40 => ?_)
        · refine pw_iconst hX (k := 0) rfl (by decide) dX4_areSame_57 (q := 58) rfl ?_
          refine pw_ireturn hX dX4_areSame_58 ⟨_, rfl, by first | exact bI_nar _ | decide | rfl⟩ ⟨congrArg (fun z => some (Value.int z)) ?_, ?_⟩
          · first | (exfalso; omega) | (rw [show mSame S o p t = true by simp_all [mSame]]; rfl) | (rw [show mSame S o p t = false by simp_all [mSame]]; rfl)
          · rfl
        · refine pw_aload_n hX rfl dX4_areSame_43 (q := 44) rfl ?_
          refine pw_iload_n hX rfl dX4_areSame_44 (q := 45) rfl ?_
          refine pw_iload_n hX rfl dX4_areSame_45 (q := 46) rfl ?_
          refine pw_iload_n hX rfl dX4_areSame_46 (q := 47) rfl ?_
          refine pw_cvI3 hX dX4_areSame_47 (q := 50) rfl mi_X4_hasNewer ml_X4_85 rcM ⟨rfl, rfl, by decide, by decide⟩ rfl (Nat.le_of_ble_eq_true rfl) (c_X4_hasNewer (by first | assumption | omega) (by first | assumption | omega) (by first | assumption | omega) (by first | assumption | omega)) ?_
          refine pw_ifB_ne hX (tgt := 57) dX4_areSame_50 (q := 53) rfl (by decide) (fun h_50 => ?_) (fun h_50 => ?_)
          · refine pw_iconst hX (k := 0) rfl (by decide) dX4_areSame_57 (q := 58) rfl ?_
            refine pw_ireturn hX dX4_areSame_58 ⟨_, rfl, by first | exact bI_nar _ | decide | rfl⟩ ⟨congrArg (fun z => some (Value.int z)) ?_, ?_⟩
            · first | (exfalso; omega) | (rw [show mSame S o p t = true by simp_all [mSame]]; rfl) | (rw [show mSame S o p t = false by simp_all [mSame]]; rfl)
            · rfl
          · refine pw_iconst hX (k := 1) rfl (by decide) dX4_areSame_53 (q := 54) rfl ?_
            refine pw_goto hX (tgt := 58) dX4_areSame_54 (by decide) ?_
            refine pw_ireturn hX dX4_areSame_58 ⟨_, rfl, by first | exact bI_nar _ | decide | rfl⟩ ⟨congrArg (fun z => some (Value.int z)) ?_, ?_⟩
            · first | (exfalso; omega) | (rw [show mSame S o p t = true by simp_all [mSame]]; rfl) | (rw [show mSame S o p t = false by simp_all [mSame]]; rfl)
            · rfl
abbrev rm_X4_makes : Room := { frames := 1, cells := 0, slots := 0, locals := 22 }
set_option maxHeartbeats 4000000 in
set_option maxRecDepth 20000 in
theorem c_X4_makes {l : Launch} {g : Geo} {w : WD} {V : Nat → Nat → Nat} {S : Nat → Nat} {v t a b c : Nat} (hv : v < 7) (ht : t < 12) : CtI l g yX4_makes cX4_makes 7 (some .int) rm_X4_makes [.ref (g_ad g 9 0), .int (nI v), .int (nI t), .int (nI a), .int (nI b), .int (nI c)] (mW w V S) (nI (mMake S v t a b c (5 + 4 * v + 1))) (mW w V (mMake S v t a b c)) := by
  refine ct_of mi_X4_makes.2.2.2.2.2 ⟨rfl, rfl⟩ (List.forall_mem_cons.mpr ⟨rfl, List.forall_mem_cons.mpr ⟨rfl, List.forall_mem_cons.mpr ⟨rfl, List.forall_mem_cons.mpr ⟨rfl, List.forall_mem_cons.mpr ⟨rfl, List.forall_mem_cons.mpr ⟨rfl, fun _ h => absurd h List.not_mem_nil⟩⟩⟩⟩⟩⟩) (Nat.le_of_ble_eq_true rfl) (fun P hX => ?_)
  replace hX : Gd l g RX4 cX4_makes rm_X4_makes 7 (some .int) _ _ P := hX
  show P (mW w V S) 0 [some (.ref (g_ad g 9 0)), some (.int (nI v)), some (.int (nI t)), some (.int (nI a)), some (.int (nI b)), some (.int (nI c)), none] []
  refine pw_aload_n hX rfl dX4_makes_0 (q := 1) rfl ?_
  refine pw_getMS hX 0 (by decide) fl_X4_7 rfl dX4_makes_1 (q := 4) rfl ?_
  refine pw_iconst hX (k := 5) rfl (by decide) dX4_makes_4 (q := 5) rfl ?_
  refine pw_iconst hX (k := 4) rfl (by decide) dX4_makes_5 (q := 6) rfl ?_
  refine pw_iload_n hX rfl dX4_makes_6 (q := 7) rfl ?_
  refine pw_imulN hX dX4_makes_7 (q := 8) rfl ?_
  refine pw_iaddN hX dX4_makes_8 (q := 9) rfl ?_
  refine pw_iconst hX (k := 1) rfl (by decide) dX4_makes_9 (q := 10) rfl ?_
  refine pw_iaddN hX dX4_makes_10 (q := 11) rfl ?_
  refine pw_dup2 hX rfl rfl dX4_makes_11 (q := 12) rfl ?_
  refine pw_ialdS hX (by omega) dX4_makes_12 (q := 13) rfl ?_
  refine pw_iconst hX (k := 1) rfl (by decide) dX4_makes_13 (q := 14) rfl ?_
  refine pw_iaddN hX dX4_makes_14 (q := 15) rfl ?_
  refine pw_iastS hX (by omega) dX4_makes_15 (q := 16) rfl ?_
  refine pw_iload_n hX rfl dX4_makes_16 (q := 17) rfl ?_
  refine pw_iload_n hX rfl dX4_makes_17 (q := 18) rfl ?_
  refine pw_csI2 hX dX4_makes_18 (q := 21) rfl mi_X4_place ml_X4_29 ⟨rfl, rfl, by decide, by decide⟩ rfl (Nat.le_of_ble_eq_true rfl) (c_X4_place) ?_
  refine pw_istore hX (by decide) dX4_makes_21 (q := 23) rfl ?_
  refine pw_aload_n hX rfl dX4_makes_23 (q := 24) rfl ?_
  refine pw_getMS hX 0 (by decide) fl_X4_7 rfl dX4_makes_24 (q := 27) rfl ?_
  refine pw_iload hX rfl dX4_makes_27 (q := 29) rfl ?_
  refine pw_iload_n hX rfl dX4_makes_29 (q := 30) rfl ?_
  refine pw_iastS hX (by omega) dX4_makes_30 (q := 31) rfl ?_
  refine pw_aload_n hX rfl dX4_makes_31 (q := 32) rfl ?_
  refine pw_getMS hX 0 (by decide) fl_X4_7 rfl dX4_makes_32 (q := 35) rfl ?_
  refine pw_iload hX rfl dX4_makes_35 (q := 37) rfl ?_
  refine pw_iconst hX (k := 1) rfl (by decide) dX4_makes_37 (q := 38) rfl ?_
  refine pw_iaddN hX dX4_makes_38 (q := 39) rfl ?_
  refine pw_aload_n hX rfl dX4_makes_39 (q := 40) rfl ?_
  refine pw_iload_n hX rfl dX4_makes_40 (q := 41) rfl ?_
  refine pw_iconst hX (k := 1) rfl (by decide) dX4_makes_41 (q := 42) rfl ?_
  refine pw_cvI2 hX dX4_makes_42 (q := 45) rfl mi_X4_vi ml_X4_37 rcM ⟨rfl, rfl, by decide, by decide⟩ rfl (Nat.le_of_ble_eq_true rfl) (c_X4_vi (by first | assumption | omega) (by first | assumption | omega)) ?_
  refine pw_iastS hX (by omega) dX4_makes_45 (q := 46) rfl ?_
  refine pw_aload_n hX rfl dX4_makes_46 (q := 47) rfl ?_
  refine pw_getMS hX 0 (by decide) fl_X4_7 rfl dX4_makes_47 (q := 50) rfl ?_
  refine pw_iload hX rfl dX4_makes_50 (q := 52) rfl ?_
  refine pw_iconst hX (k := 2) rfl (by decide) dX4_makes_52 (q := 53) rfl ?_
  refine pw_iaddN hX dX4_makes_53 (q := 54) rfl ?_
  refine pw_iload_n hX rfl dX4_makes_54 (q := 55) rfl ?_
  refine pw_iastS hX (by omega) dX4_makes_55 (q := 56) rfl ?_
  refine pw_aload_n hX rfl dX4_makes_56 (q := 57) rfl ?_
  refine pw_getMS hX 0 (by decide) fl_X4_7 rfl dX4_makes_57 (q := 60) rfl ?_
  refine pw_iload hX rfl dX4_makes_60 (q := 62) rfl ?_
  refine pw_iconst hX (k := 3) rfl (by decide) dX4_makes_62 (q := 63) rfl ?_
  refine pw_iaddN hX dX4_makes_63 (q := 64) rfl ?_
  refine pw_iload hX rfl dX4_makes_64 (q := 66) rfl ?_
  refine pw_iastS hX (by omega) dX4_makes_66 (q := 67) rfl ?_
  refine pw_aload_n hX rfl dX4_makes_67 (q := 68) rfl ?_
  refine pw_getMS hX 0 (by decide) fl_X4_7 rfl dX4_makes_68 (q := 71) rfl ?_
  refine pw_iload hX rfl dX4_makes_71 (q := 73) rfl ?_
  refine pw_iconst hX (k := 4) rfl (by decide) dX4_makes_73 (q := 74) rfl ?_
  refine pw_iaddN hX dX4_makes_74 (q := 75) rfl ?_
  refine pw_iload hX rfl dX4_makes_75 (q := 77) rfl ?_
  refine pw_iastS hX (by omega) dX4_makes_77 (q := 78) rfl ?_
  refine pw_aload_n hX rfl dX4_makes_78 (q := 79) rfl ?_
  refine pw_getMS hX 0 (by decide) fl_X4_7 rfl dX4_makes_79 (q := 82) rfl ?_
  refine pw_iload hX rfl dX4_makes_82 (q := 84) rfl ?_
  refine pw_iconst hX (k := 5) rfl (by decide) dX4_makes_84 (q := 85) rfl ?_
  refine pw_iaddN hX dX4_makes_85 (q := 86) rfl ?_
  refine pw_aload_n hX rfl dX4_makes_86 (q := 87) rfl ?_
  refine pw_getMS hX 0 (by decide) fl_X4_7 rfl dX4_makes_87 (q := 90) rfl ?_
  refine pw_iconst hX (k := 1) rfl (by decide) dX4_makes_90 (q := 91) rfl ?_
  refine pw_ialdS hX (by omega) dX4_makes_91 (q := 92) rfl ?_
  refine pw_iastS hX (by omega) dX4_makes_92 (q := 93) rfl ?_
  refine pw_aload_n hX rfl dX4_makes_93 (q := 94) rfl ?_
  refine pw_getMS hX 0 (by decide) fl_X4_7 rfl dX4_makes_94 (q := 97) rfl ?_
  refine pw_iload hX rfl dX4_makes_97 (q := 99) rfl ?_
  refine pw_bipush hX (k := 6) (by decide) dX4_makes_99 (q := 101) rfl ?_
  refine pw_iaddN hX dX4_makes_101 (q := 102) rfl ?_
  refine pw_iconst hX (k := 1) rfl (by decide) dX4_makes_102 (q := 103) rfl ?_
  refine pw_iload_n hX rfl dX4_makes_103 (q := 104) rfl ?_
  refine pw_ishl1 hX (by omega) dX4_makes_104 (q := 105) rfl ?_
  refine pw_iastS hX (by omega) dX4_makes_105 (q := 106) rfl ?_
  refine pw_aload_n hX rfl dX4_makes_106 (q := 107) rfl ?_
  refine pw_iload_n hX rfl dX4_makes_107 (q := 108) rfl ?_
  refine pw_iconst hX (k := 1) rfl (by decide) dX4_makes_108 (q := 109) rfl ?_
  refine pw_cvI2 hX dX4_makes_109 (q := 112) rfl mi_X4_vi ml_X4_37 rcM ⟨rfl, rfl, by decide, by decide⟩ rfl (Nat.le_of_ble_eq_true rfl) (c_X4_vi (by first | assumption | omega) (by first | assumption | omega)) ?_
  refine pw_ireturn hX dX4_makes_112 ⟨_, rfl, rfl⟩ ⟨congrArg (fun z => some (Value.int z)) ?_, ?_⟩
  · rfl
  · rfl
abbrev rm_X4_tells : Room := { frames := 2, cells := 0, slots := 0, locals := 48 }
set_option maxHeartbeats 4000000 in
set_option maxRecDepth 20000 in
theorem c_X4_tells {l : Launch} {g : Geo} {w : WD} {V : Nat → Nat → Nat} {S : Nat → Nat} {v t a k : Int32} (hB : bS S) : CtI l g yX4_tells cX4_tells 5 (some .int) rm_X4_tells [.ref (g_ad g 9 0), .int v, .int t, .int a, .int k] (mW w V S) ((mTells S v t a k).2) (mW w V (mTells S v t a k).1) := by
  refine ct_of mi_X4_tells.2.2.2.2.2 ⟨rfl, rfl⟩ (List.forall_mem_cons.mpr ⟨rfl, List.forall_mem_cons.mpr ⟨rfl, List.forall_mem_cons.mpr ⟨rfl, List.forall_mem_cons.mpr ⟨rfl, List.forall_mem_cons.mpr ⟨rfl, fun _ h => absurd h List.not_mem_nil⟩⟩⟩⟩⟩) (Nat.le_of_ble_eq_true rfl) (fun P hX => ?_)
  replace hX : Gd l g RX4 cX4_tells rm_X4_tells 5 (some .int) _ _ P := hX
  show P (mW w V S) 0 [some (.ref (g_ad g 9 0)), some (.int v), some (.int t), some (.int a), some (.int k)] []
  have h7 := hB.2.2.1
  refine pw_aload_n hX rfl dX4_tells_0 (q := 1) rfl ?_
  refine pw_iload_n hX rfl dX4_tells_1 (q := 2) rfl ?_
  refine pw_cvI1 hX dX4_tells_2 (q := 5) rfl mi_X4_isVillager ml_X4_53 rcM ⟨rfl, rfl, by decide, by decide⟩ rfl (Nat.le_of_ble_eq_true rfl) (c_X4_isVillager (by first | assumption | omega)) ?_
  refine pw_ifB_eq hX (tgt := 35) dX4_tells_5 (q := 8) rfl (by decide) (fun h_5 => ?_) (fun h_5 => ?_)
  · refine pw_ldc hX cn_X4_40 dX4_tells_35 (q := 37) rfl ?_
    refine pw_ireturn hX dX4_tells_37 ⟨_, rfl, rfl⟩ ⟨congrArg (fun z => some (Value.int z)) ?_, ?_⟩
    · rw [mTells, if_neg (by rintro ⟨a1, a2, a3, a4⟩; simp_all)]
    · first | (rw [mTells, if_pos ⟨h_5, h_12, h_22, h_32⟩, hx, hxj, hxb, hxk]; first | rw [if_pos h_43] | rw [if_neg h_43]) | (rw [mTells, if_neg (by rintro ⟨a1, a2, a3, a4⟩; simp_all)])
  · obtain ⟨i, hi, rfl⟩ := hasN_of (by have := hB.2.2.1; omega) h_5
    have hx : ix (nI i) = i := ix_nI (by have := hB.2.2.1; omega)
    have h7 := hB.2.2.1
    refine pw_iload_n hX rfl dX4_tells_8 (q := 9) rfl ?_
    refine pw_csI1 hX dX4_tells_9 (q := 12) rfl mi_X4_isTopic ml_X4_88 ⟨rfl, rfl, by decide, by decide⟩ rfl (Nat.le_of_ble_eq_true rfl) (c_X4_isTopic) ?_
    refine pw_ifB_eq hX (tgt := 35) dX4_tells_12 (q := 15) rfl (by decide) (fun h_12 => ?_) (fun h_12 => ?_)
    · refine pw_ldc hX cn_X4_40 dX4_tells_35 (q := 37) rfl ?_
      refine pw_ireturn hX dX4_tells_37 ⟨_, rfl, rfl⟩ ⟨congrArg (fun z => some (Value.int z)) ?_, ?_⟩
      · rw [mTells, if_neg (by rintro ⟨a1, a2, a3, a4⟩; simp_all)]
      · first | (rw [mTells, if_pos ⟨h_5, h_12, h_22, h_32⟩, hx, hxj, hxb, hxk]; first | rw [if_pos h_43] | rw [if_neg h_43]) | (rw [mTells, if_neg (by rintro ⟨a1, a2, a3, a4⟩; simp_all)])
    · obtain ⟨j, hj, rfl⟩ := hasN_of (by decide) h_12
      have hxj : ix (nI j) = j := ix_nI (by omega)
      refine pw_iload_n hX rfl dX4_tells_15 (q := 16) rfl ?_
      refine pw_iconst hX (k := 0) rfl (by decide) dX4_tells_16 (q := 17) rfl ?_
      refine pw_bipush hX (k := 99) (by decide) dX4_tells_17 (q := 19) rfl ?_
      refine pw_csI3 hX dX4_tells_19 (q := 22) rfl mi_X4_in ml_X4_33 ⟨rfl, rfl, by decide, by decide⟩ rfl (Nat.le_of_ble_eq_true rfl) (c_X4_inN (by decide) (by decide)) ?_
      refine pw_ifB_eq hX (tgt := 35) dX4_tells_22 (q := 25) rfl (by decide) (fun h_22 => ?_) (fun h_22 => ?_)
      · refine pw_ldc hX cn_X4_40 dX4_tells_35 (q := 37) rfl ?_
        refine pw_ireturn hX dX4_tells_37 ⟨_, rfl, rfl⟩ ⟨congrArg (fun z => some (Value.int z)) ?_, ?_⟩
        · rw [mTells, if_neg (by rintro ⟨a1, a2, a3, a4⟩; simp_all)]
        · first | (rw [mTells, if_pos ⟨h_5, h_12, h_22, h_32⟩, hx, hxj, hxb, hxk]; first | rw [if_pos h_43] | rw [if_neg h_43]) | (rw [mTells, if_neg (by rintro ⟨a1, a2, a3, a4⟩; simp_all)])
      · obtain ⟨b, -, hb, rfl⟩ := inN_of (by decide) h_22
        have hxb : ix (nI b) = b := ix_nI (by omega)
        refine pw_iload hX rfl dX4_tells_25 (q := 27) rfl ?_
        refine pw_iconst hX (k := 0) rfl (by decide) dX4_tells_27 (q := 28) rfl ?_
        refine pw_iconst hX (k := 2) rfl (by decide) dX4_tells_28 (q := 29) rfl ?_
        refine pw_csI3 hX dX4_tells_29 (q := 32) rfl mi_X4_in ml_X4_33 ⟨rfl, rfl, by decide, by decide⟩ rfl (Nat.le_of_ble_eq_true rfl) (c_X4_inN (by decide) (by decide)) ?_
        refine pw_ifB_ne hX (tgt := 38) dX4_tells_32 (q := 35) rfl (by decide) (fun h_32 => ?_) (fun h_32 => ?_)
        · obtain ⟨k, -, hk, rfl⟩ := inN_of (by decide) h_32
          have hxk : ix (nI k) = k := ix_nI (by omega)
          refine pw_aload_n hX rfl dX4_tells_38 (q := 39) rfl ?_
          refine pw_iload_n hX rfl dX4_tells_39 (q := 40) rfl ?_
          refine pw_cvI1 hX dX4_tells_40 (q := 43) rfl mi_X4_isAwake ml_X4_57 rcM ⟨rfl, rfl, by decide, by decide⟩ rfl (Nat.le_of_ble_eq_true rfl) (c_X4_isAwake (by first | assumption | omega) (by first | assumption | omega)) ?_
          refine pw_ifB_eq hX (tgt := 59) dX4_tells_43 (q := 46) rfl (by decide) (fun h_43 => ?_) (fun h_43 => ?_)
          · have h_43 := of_decide_eq_false h_43
            refine pw_ldc hX cn_X4_60 dX4_tells_59 (q := 61) rfl ?_
            refine pw_ireturn hX dX4_tells_61 ⟨_, rfl, rfl⟩ ⟨congrArg (fun z => some (Value.int z)) ?_, ?_⟩
            · rw [mTells, if_pos ⟨h_5, h_12, h_22, h_32⟩, hx, hxj, hxb, hxk]; first | rw [if_pos h_43] | rw [if_neg h_43]
            · first | (rw [mTells, if_pos ⟨h_5, h_12, h_22, h_32⟩, hx, hxj, hxb, hxk]; first | rw [if_pos h_43] | rw [if_neg h_43]) | (rw [mTells, if_neg (by rintro ⟨a1, a2, a3, a4⟩; simp_all)])
          · have h_43 := of_decide_eq_true h_43
            refine pw_aload_n hX rfl dX4_tells_46 (q := 47) rfl ?_
            refine pw_iload_n hX rfl dX4_tells_47 (q := 48) rfl ?_
            refine pw_iload_n hX rfl dX4_tells_48 (q := 49) rfl ?_
            refine pw_iconst hX (k := 1) rfl (by decide) dX4_tells_49 (q := 50) rfl ?_
            refine pw_iload_n hX rfl dX4_tells_50 (q := 51) rfl ?_
            refine pw_iload hX rfl dX4_tells_51 (q := 53) rfl ?_
            refine pw_cvI5 hX dX4_tells_53 (q := 56) rfl mi_X4_makes ml_X4_91 rcM ⟨rfl, rfl, by decide, by decide⟩ rfl (Nat.le_of_ble_eq_true rfl) (c_X4_makes (by first | assumption | omega) (by first | assumption | omega)) ?_
            refine pw_goto hX (tgt := 61) dX4_tells_56 (by decide) ?_
            refine pw_ireturn hX dX4_tells_61 ⟨_, rfl, rfl⟩ ⟨congrArg (fun z => some (Value.int z)) ?_, ?_⟩
            · rw [mTells, if_pos ⟨h_5, h_12, h_22, h_32⟩, hx, hxj, hxb, hxk]; first | rw [if_pos h_43] | rw [if_neg h_43]
            · first | (rw [mTells, if_pos ⟨h_5, h_12, h_22, h_32⟩, hx, hxj, hxb, hxk]; first | rw [if_pos h_43] | rw [if_neg h_43]) | (rw [mTells, if_neg (by rintro ⟨a1, a2, a3, a4⟩; simp_all)])
        · refine pw_ldc hX cn_X4_40 dX4_tells_35 (q := 37) rfl ?_
          refine pw_ireturn hX dX4_tells_37 ⟨_, rfl, rfl⟩ ⟨congrArg (fun z => some (Value.int z)) ?_, ?_⟩
          · rw [mTells, if_neg (by rintro ⟨a1, a2, a3, a4⟩; simp_all)]
          · first | (rw [mTells, if_pos ⟨h_5, h_12, h_22, h_32⟩, hx, hxj, hxb, hxk]; first | rw [if_pos h_43] | rw [if_neg h_43]) | (rw [mTells, if_neg (by rintro ⟨a1, a2, a3, a4⟩; simp_all)])
abbrev rm_X4_tell : Room := { frames := 3, cells := 0, slots := 0, locals := 72 }
set_option maxHeartbeats 4000000 in
set_option maxRecDepth 20000 in
theorem c_X4_tell {l : Launch} {g : Geo} {w : WD} {V : Nat → Nat → Nat} {S : Nat → Nat} {v t a k : Int32} (h4 : V 0 4 ≤ 4) (hB : bS S) : CtI l g yX4_tell cX4_tell 5 (some .int) rm_X4_tell [.ref (g_ad g 9 0), .int v, .int t, .int a, .int k] (mW w V S) ((mTells S v t a k).2) (mW w (mActed (vA V 3 S) (mTells S v t a k).2) (mTells S v t a k).1) := by
  refine ct_of mi_X4_tell.2.2.2.2.2 ⟨rfl, rfl⟩ (List.forall_mem_cons.mpr ⟨rfl, List.forall_mem_cons.mpr ⟨rfl, List.forall_mem_cons.mpr ⟨rfl, List.forall_mem_cons.mpr ⟨rfl, List.forall_mem_cons.mpr ⟨rfl, fun _ h => absurd h List.not_mem_nil⟩⟩⟩⟩⟩) (Nat.le_of_ble_eq_true rfl) (fun P hX => ?_)
  replace hX : Gd l g RX4 cX4_tell rm_X4_tell 5 (some .int) _ _ P := hX
  show P (mW w V S) 0 [some (.ref (g_ad g 9 0)), some (.int v), some (.int t), some (.int a), some (.int k)] []
  have h7 := hB.2.2.1
  refine pw_aload_n hX rfl dX4_tell_0 (q := 1) rfl ?_
  refine pw_cvV0 hX dX4_tell_1 (q := 4) rfl mi_X4_keeps ml_X4_46 rcM ⟨rfl, rfl, by decide, by decide⟩ rfl (Nat.le_of_ble_eq_true rfl) (c_X4_keeps) ?_
  refine pw_aload_n hX rfl dX4_tell_4 (q := 5) rfl ?_
  refine pw_aload_n hX rfl dX4_tell_5 (q := 6) rfl ?_
  refine pw_iload_n hX rfl dX4_tell_6 (q := 7) rfl ?_
  refine pw_iload_n hX rfl dX4_tell_7 (q := 8) rfl ?_
  refine pw_iload_n hX rfl dX4_tell_8 (q := 9) rfl ?_
  refine pw_iload hX rfl dX4_tell_9 (q := 11) rfl ?_
  refine pw_cvI4 hX dX4_tell_11 (q := 14) rfl mi_X4_tells ml_X4_95 rcM ⟨rfl, rfl, by decide, by decide⟩ rfl (Nat.le_of_ble_eq_true rfl) (c_X4_tells hB) ?_
  refine pw_cvI1 hX dX4_tell_14 (q := 17) rfl mi_X4_acted ml_X4_49 rcM ⟨rfl, rfl, by decide, by decide⟩ rfl (Nat.le_of_ble_eq_true rfl) (c_X4_acted (show (vA V 3 S) 0 4 ≤ 4 from h4)) ?_
  refine pw_ireturn hX dX4_tell_17 ⟨_, rfl, rfl⟩ ⟨congrArg (fun z => some (Value.int z)) ?_, ?_⟩
  · rfl
  · rfl
abbrev rm_X4_buries : Room := { frames := 2, cells := 0, slots := 0, locals := 48 }
set_option maxHeartbeats 4000000 in
set_option maxRecDepth 20000 in
theorem c_X4_buries {l : Launch} {g : Geo} {w : WD} {V : Nat → Nat → Nat} {S : Nat → Nat} {v t : Int32} (hB : bS S) : CtI l g yX4_buries cX4_buries 4 (some .int) rm_X4_buries [.ref (g_ad g 9 0), .int v, .int t] (mW w V S) ((mBuries S v t).2) (mW w V (mBuries S v t).1) := by
  refine ct_of mi_X4_buries.2.2.2.2.2 ⟨rfl, rfl⟩ (List.forall_mem_cons.mpr ⟨rfl, List.forall_mem_cons.mpr ⟨rfl, List.forall_mem_cons.mpr ⟨rfl, fun _ h => absurd h List.not_mem_nil⟩⟩⟩) (Nat.le_of_ble_eq_true rfl) (fun P hX => ?_)
  replace hX : Gd l g RX4 cX4_buries rm_X4_buries 4 (some .int) _ _ P := hX
  show P (mW w V S) 0 [some (.ref (g_ad g 9 0)), some (.int v), some (.int t), none] []
  have h7 := hB.2.2.1
  refine pw_aload_n hX rfl dX4_buries_0 (q := 1) rfl ?_
  refine pw_iload_n hX rfl dX4_buries_1 (q := 2) rfl ?_
  refine pw_cvI1 hX dX4_buries_2 (q := 5) rfl mi_X4_isVillager ml_X4_53 rcM ⟨rfl, rfl, by decide, by decide⟩ rfl (Nat.le_of_ble_eq_true rfl) (c_X4_isVillager (by first | assumption | omega)) ?_
  refine pw_ifB_eq hX (tgt := 15) dX4_buries_5 (q := 8) rfl (by decide) (fun h_5 => ?_) (fun h_5 => ?_)
  · refine pw_ldc hX cn_X4_40 dX4_buries_15 (q := 17) rfl ?_
    refine pw_ireturn hX dX4_buries_17 ⟨_, rfl, rfl⟩ ⟨congrArg (fun z => some (Value.int z)) ?_, ?_⟩
    · rw [mBuries, if_neg (by rintro ⟨a1, a2⟩; simp_all)]
    · rw [mBuries, if_neg (by rintro ⟨a1, a2⟩; simp_all)]
  · obtain ⟨i, hi, rfl⟩ := hasN_of (by have := hB.2.2.1; omega) h_5
    have hx : ix (nI i) = i := ix_nI (by have := hB.2.2.1; omega)
    have h7 := hB.2.2.1
    refine pw_iload_n hX rfl dX4_buries_8 (q := 9) rfl ?_
    refine pw_csI1 hX dX4_buries_9 (q := 12) rfl mi_X4_isTopic ml_X4_88 ⟨rfl, rfl, by decide, by decide⟩ rfl (Nat.le_of_ble_eq_true rfl) (c_X4_isTopic) ?_
    refine pw_ifB_ne hX (tgt := 18) dX4_buries_12 (q := 15) rfl (by decide) (fun h_12 => ?_) (fun h_12 => ?_)
    · obtain ⟨j, hj, rfl⟩ := hasN_of (by decide) h_12
      have hxj : ix (nI j) = j := ix_nI (by omega)
      refine pw_aload_n hX rfl dX4_buries_18 (q := 19) rfl ?_
      refine pw_iload_n hX rfl dX4_buries_19 (q := 20) rfl ?_
      refine pw_cvI1 hX dX4_buries_20 (q := 23) rfl mi_X4_isAwake ml_X4_57 rcM ⟨rfl, rfl, by decide, by decide⟩ rfl (Nat.le_of_ble_eq_true rfl) (c_X4_isAwake (by first | assumption | omega) (by first | assumption | omega)) ?_
      refine pw_ifB_eq hX (tgt := 37) dX4_buries_23 (q := 26) rfl (by decide) (fun h_23 => ?_) (fun h_23 => ?_)
      · have h_23 := of_decide_eq_false h_23
        refine pw_ldc hX cn_X4_60 dX4_buries_37 (q := 39) rfl ?_
        refine pw_ireturn hX dX4_buries_39 ⟨_, rfl, rfl⟩ ⟨congrArg (fun z => some (Value.int z)) ?_, ?_⟩
        · rw [mBuries, if_pos ⟨h_5, h_12⟩, hx, hxj, if_neg (by omega)]
        · rw [mBuries, if_pos ⟨h_5, h_12⟩, hx, hxj, if_neg (by omega)]
      · have h_23 := of_decide_eq_true h_23
        refine pw_aload_n hX rfl dX4_buries_26 (q := 27) rfl ?_
        refine pw_iload_n hX rfl dX4_buries_27 (q := 28) rfl ?_
        refine pw_iload_n hX rfl dX4_buries_28 (q := 29) rfl ?_
        refine pw_iconst hX (k := 0) rfl (by decide) dX4_buries_29 (q := 30) rfl ?_
        refine pw_cvI3 hX dX4_buries_30 (q := 33) rfl mi_X4_en ml_X4_73 rcM ⟨rfl, rfl, by decide, by decide⟩ rfl (Nat.le_of_ble_eq_true rfl) (c_X4_en (by first | assumption | omega) (by first | assumption | omega) (by first | assumption | omega)) ?_
        refine pw_iconst hX (k := 1) rfl (by decide) dX4_buries_33 (q := 34) rfl ?_
        refine pw_icmpN_eq hX (by first | omega | exact bS0 hB | exact bSw hB (by omega) (by omega) (by omega) | exact bSe hB (by omega) (by omega) | exact bS1 hB | exact bS2 hB) (by first | omega | exact bS0 hB | exact bSw hB (by omega) (by omega) (by omega) | exact bSe hB (by omega) (by omega) | exact bS1 hB | exact bS2 hB) (tgt := 40) dX4_buries_34 (q := 37) rfl (by decide) (fun h_34 => ?_) (fun h_34 => ?_)
        · refine pw_aload_n hX rfl dX4_buries_40 (q := 41) rfl ?_
          refine pw_iload_n hX rfl dX4_buries_41 (q := 42) rfl ?_
          refine pw_iload_n hX rfl dX4_buries_42 (q := 43) rfl ?_
          refine pw_iconst hX (k := 2) rfl (by decide) dX4_buries_43 (q := 44) rfl ?_
          refine pw_iconst hX (k := 0) rfl (by decide) dX4_buries_44 (q := 45) rfl ?_
          refine pw_iconst hX (k := 0) rfl (by decide) dX4_buries_45 (q := 46) rfl ?_
          refine pw_cvI5 hX dX4_buries_46 (q := 49) rfl mi_X4_makes ml_X4_91 rcM ⟨rfl, rfl, by decide, by decide⟩ rfl (Nat.le_of_ble_eq_true rfl) (c_X4_makes (by first | assumption | omega) (by first | assumption | omega)) ?_
          refine pw_istore_n hX (by decide) dX4_buries_49 (q := 50) rfl ?_
          refine pw_aload_n hX rfl dX4_buries_50 (q := 51) rfl ?_
          refine pw_getMS hX 0 (by decide) fl_X4_7 rfl dX4_buries_51 (q := 54) rfl ?_
          refine pw_iconst hX (k := 4) rfl (by decide) dX4_buries_54 (q := 55) rfl ?_
          refine pw_dup2 hX rfl rfl dX4_buries_55 (q := 56) rfl ?_
          refine pw_ialdS hX (by omega) dX4_buries_56 (q := 57) rfl ?_
          refine pw_iconst hX (k := 1) rfl (by decide) dX4_buries_57 (q := 58) rfl ?_
          refine pw_iaddN hX dX4_buries_58 (q := 59) rfl ?_
          refine pw_iastS hX (by omega) dX4_buries_59 (q := 60) rfl ?_
          refine pw_iload_n hX rfl dX4_buries_60 (q := 61) rfl ?_
          refine pw_iload_n hX rfl dX4_buries_61 (q := 62) rfl ?_
          refine pw_aload_n hX rfl dX4_buries_62 (q := 63) rfl ?_
          refine pw_getMS hX 0 (by decide) fl_X4_7 rfl dX4_buries_63 (q := 66) rfl ?_
          refine pw_bipush hX (k := 33) (by decide) dX4_buries_66 (q := 68) rfl ?_
          refine pw_iconst hX (k := 2) rfl (by decide) dX4_buries_68 (q := 69) rfl ?_
          refine pw_iload_n hX rfl dX4_buries_69 (q := 70) rfl ?_
          refine pw_imulN hX dX4_buries_70 (q := 71) rfl ?_
          refine pw_iaddN hX dX4_buries_71 (q := 72) rfl ?_
          refine pw_ialdS hX (by omega) dX4_buries_72 (q := 73) rfl ?_
          refine pw_aload_n hX rfl dX4_buries_73 (q := 74) rfl ?_
          refine pw_getMS hX 0 (by decide) fl_X4_7 rfl dX4_buries_74 (q := 77) rfl ?_
          refine pw_bipush hX (k := 33) (by decide) dX4_buries_77 (q := 79) rfl ?_
          refine pw_iconst hX (k := 2) rfl (by decide) dX4_buries_79 (q := 80) rfl ?_
          refine pw_iload_n hX rfl dX4_buries_80 (q := 81) rfl ?_
          refine pw_imulN hX dX4_buries_81 (q := 82) rfl ?_
          refine pw_iaddN hX dX4_buries_82 (q := 83) rfl ?_
          refine pw_iconst hX (k := 1) rfl (by decide) dX4_buries_83 (q := 84) rfl ?_
          refine pw_iaddN hX dX4_buries_84 (q := 85) rfl ?_
          refine pw_ialdS hX (by omega) dX4_buries_85 (q := 86) rfl ?_
          refine pw_csI4 hX dX4_buries_86 (q := 89) rfl mi_X4_isNewer ml_X4_81 ⟨rfl, rfl, by decide, by decide⟩ rfl (Nat.le_of_ble_eq_true rfl) (c_X4_isNewer (by rw [mMake_c S (by omega)]; have := hB.2.1 i 1 (by omega) (by decide) (by decide); omega) (by omega) (by rw [upN_n _ _ (by omega), mMake_n S (by omega) (by omega)]; exact bSe hB (by omega) (by omega)) (by rw [upN_n _ _ (by omega), mMake_n S (by omega) (by omega)]; exact bSe hB (by omega) (by omega))) ?_
          refine pw_ifB_eq hX (tgt := 118) dX4_buries_89 (q := 92) rfl (by decide) (fun h_89 => ?_) (fun h_89 => ?_)
          · refine pw_iload_n hX rfl dX4_buries_118 (q := 119) rfl ?_
            refine pw_ireturn hX dX4_buries_119 ⟨_, rfl, rfl⟩ ⟨congrArg (fun z => some (Value.int z)) ?_, ?_⟩
            · rw [mBuries, if_pos ⟨h_5, h_12⟩, hx, hxj, if_pos ⟨h_23, h_34⟩]
            · rw [mBuries, if_pos ⟨h_5, h_12⟩, hx, hxj, if_pos ⟨h_23, h_34⟩]; refine mW_eS ?_; unfold mBury; first | rw [if_pos h_89] | rw [if_neg (by simp [h_89])]
          · refine pw_aload_n hX rfl dX4_buries_92 (q := 93) rfl ?_
            refine pw_getMS hX 0 (by decide) fl_X4_7 rfl dX4_buries_93 (q := 96) rfl ?_
            refine pw_bipush hX (k := 33) (by decide) dX4_buries_96 (q := 98) rfl ?_
            refine pw_iconst hX (k := 2) rfl (by decide) dX4_buries_98 (q := 99) rfl ?_
            refine pw_iload_n hX rfl dX4_buries_99 (q := 100) rfl ?_
            refine pw_imulN hX dX4_buries_100 (q := 101) rfl ?_
            refine pw_iaddN hX dX4_buries_101 (q := 102) rfl ?_
            refine pw_iload_n hX rfl dX4_buries_102 (q := 103) rfl ?_
            refine pw_iastS hX (by omega) dX4_buries_103 (q := 104) rfl ?_
            refine pw_aload_n hX rfl dX4_buries_104 (q := 105) rfl ?_
            refine pw_getMS hX 0 (by decide) fl_X4_7 rfl dX4_buries_105 (q := 108) rfl ?_
            refine pw_bipush hX (k := 33) (by decide) dX4_buries_108 (q := 110) rfl ?_
            refine pw_iconst hX (k := 2) rfl (by decide) dX4_buries_110 (q := 111) rfl ?_
            refine pw_iload_n hX rfl dX4_buries_111 (q := 112) rfl ?_
            refine pw_imulN hX dX4_buries_112 (q := 113) rfl ?_
            refine pw_iaddN hX dX4_buries_113 (q := 114) rfl ?_
            refine pw_iconst hX (k := 1) rfl (by decide) dX4_buries_114 (q := 115) rfl ?_
            refine pw_iaddN hX dX4_buries_115 (q := 116) rfl ?_
            refine pw_iload_n hX rfl dX4_buries_116 (q := 117) rfl ?_
            refine pw_iastS hX (by omega) dX4_buries_117 (q := 118) rfl ?_
            refine pw_iload_n hX rfl dX4_buries_118 (q := 119) rfl ?_
            refine pw_ireturn hX dX4_buries_119 ⟨_, rfl, rfl⟩ ⟨congrArg (fun z => some (Value.int z)) ?_, ?_⟩
            · rw [mBuries, if_pos ⟨h_5, h_12⟩, hx, hxj, if_pos ⟨h_23, h_34⟩]
            · rw [mBuries, if_pos ⟨h_5, h_12⟩, hx, hxj, if_pos ⟨h_23, h_34⟩]; refine mW_eS ?_; unfold mBury; first | rw [if_pos h_89] | rw [if_neg (by simp [h_89])]
        · refine pw_ldc hX cn_X4_60 dX4_buries_37 (q := 39) rfl ?_
          refine pw_ireturn hX dX4_buries_39 ⟨_, rfl, rfl⟩ ⟨congrArg (fun z => some (Value.int z)) ?_, ?_⟩
          · rw [mBuries, if_pos ⟨h_5, h_12⟩, hx, hxj, if_neg (by omega)]
          · rw [mBuries, if_pos ⟨h_5, h_12⟩, hx, hxj, if_neg (by omega)]
    · refine pw_ldc hX cn_X4_40 dX4_buries_15 (q := 17) rfl ?_
      refine pw_ireturn hX dX4_buries_17 ⟨_, rfl, rfl⟩ ⟨congrArg (fun z => some (Value.int z)) ?_, ?_⟩
      · rw [mBuries, if_neg (by rintro ⟨a1, a2⟩; simp_all)]
      · rw [mBuries, if_neg (by rintro ⟨a1, a2⟩; simp_all)]
abbrev rm_X4_bury : Room := { frames := 3, cells := 0, slots := 0, locals := 71 }
set_option maxHeartbeats 4000000 in
set_option maxRecDepth 20000 in
theorem c_X4_bury {l : Launch} {g : Geo} {w : WD} {V : Nat → Nat → Nat} {S : Nat → Nat} {v t : Int32} (h4 : V 0 4 ≤ 4) (hB : bS S) : CtI l g yX4_bury cX4_bury 3 (some .int) rm_X4_bury [.ref (g_ad g 9 0), .int v, .int t] (mW w V S) ((mBuries S v t).2) (mW w (mActed (vA V 3 S) (mBuries S v t).2) (mBuries S v t).1) := by
  refine ct_of mi_X4_bury.2.2.2.2.2 ⟨rfl, rfl⟩ (List.forall_mem_cons.mpr ⟨rfl, List.forall_mem_cons.mpr ⟨rfl, List.forall_mem_cons.mpr ⟨rfl, fun _ h => absurd h List.not_mem_nil⟩⟩⟩) (Nat.le_of_ble_eq_true rfl) (fun P hX => ?_)
  replace hX : Gd l g RX4 cX4_bury rm_X4_bury 3 (some .int) _ _ P := hX
  show P (mW w V S) 0 [some (.ref (g_ad g 9 0)), some (.int v), some (.int t)] []
  have h7 := hB.2.2.1
  refine pw_aload_n hX rfl dX4_bury_0 (q := 1) rfl ?_
  refine pw_cvV0 hX dX4_bury_1 (q := 4) rfl mi_X4_keeps ml_X4_46 rcM ⟨rfl, rfl, by decide, by decide⟩ rfl (Nat.le_of_ble_eq_true rfl) (c_X4_keeps) ?_
  refine pw_aload_n hX rfl dX4_bury_4 (q := 5) rfl ?_
  refine pw_aload_n hX rfl dX4_bury_5 (q := 6) rfl ?_
  refine pw_iload_n hX rfl dX4_bury_6 (q := 7) rfl ?_
  refine pw_iload_n hX rfl dX4_bury_7 (q := 8) rfl ?_
  refine pw_cvI2 hX dX4_bury_8 (q := 11) rfl mi_X4_buries ml_X4_99 rcM ⟨rfl, rfl, by decide, by decide⟩ rfl (Nat.le_of_ble_eq_true rfl) (c_X4_buries hB) ?_
  refine pw_cvI1 hX dX4_bury_11 (q := 14) rfl mi_X4_acted ml_X4_49 rcM ⟨rfl, rfl, by decide, by decide⟩ rfl (Nat.le_of_ble_eq_true rfl) (c_X4_acted (show (vA V 3 S) 0 4 ≤ 4 from h4)) ?_
  refine pw_ireturn hX dX4_bury_14 ⟨_, rfl, rfl⟩ ⟨congrArg (fun z => some (Value.int z)) ?_, ?_⟩
  · rfl
  · rfl
