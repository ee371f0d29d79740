def mDead (S : Nat → Nat) (v t : Nat) : Bool := decide (S (225 + 84 * v + 7 * t + 0) = 1 ∧ mNewer (S (33 + 2 * t)) (S (33 + 2 * t + 1)) (S (225 + 84 * v + 7 * t + 1)) (S (225 + 84 * v + 7 * t + 2)) = true)
def mNeeds (k : Nat) : Nat := if k < 3 then 0 else if k = 5 ∨ k = 6 then 2 else 1
def mEOf (S : Nat → Nat) (v t a : Int32) : Int32 := if hasN (S 0) v = true ∧ hasN 12 t = true ∧ inN 0 7 a = true then (if S (225 + 84 * ix v + 7 * ix t + 0) = 0 ∨ (0 < mNeeds (ix a) ∧ S (225 + 84 * ix v + 7 * ix t + 0) ≠ mNeeds (ix a)) then -1000004 else if ix a = 0 then nI (S (225 + 84 * ix v + 7 * ix t + 0) - 1) else if ix a = 7 then bI (mDead S (ix v) (ix t)) else nI (S (225 + 84 * ix v + 7 * ix t + ix a))) else -1000001
/-- a tomb's time is not ahead of the clock -/
def bW (S : Nat → Nat) : Prop := ∀ v t, v < 7 → t < 12 → S (225 + 84 * v + 7 * t + 5) ≤ S 1
def mOver (S : Nat → Nat) (v t a : Nat) : Bool := decide (S (225 + 84 * v + 7 * t + 6) &&& a = a ∨ S 2 ≤ S 1 - S (225 + 84 * v + 7 * t + 5))
def mDb (S : Nat → Nat) (v t a : Nat) : Bool := decide (S (5 + 4 * v + 0) ≠ 2 ∧ S (225 + 84 * v + 7 * t + 0) = 2 ∧ mOver S v t a = true)
def mDs (S : Nat → Nat) (v t : Nat) : Nat → Nat := if mNewer (S (225 + 84 * v + 7 * t + 1)) (S (225 + 84 * v + 7 * t + 2)) (S (57 + 24 * v + 2 * t)) (S (57 + 24 * v + 2 * t + 1)) = true then upN (upN S (57 + 24 * v + 2 * t) (S (225 + 84 * v + 7 * t + 1))) (57 + 24 * v + 2 * t + 1) (S (225 + 84 * v + 7 * t + 2)) else S
def mDrop (S : Nat → Nat) (v t a : Nat) : Nat → Nat := if mDb S v t a = true then upN (mDs S v t) (225 + 84 * v + 7 * t) 0 else S
def mDr (S : Nat → Nat) (v t a : Nat) : Nat := if mDb S v t a = true then 1 else 0
theorem mDs_n (S : Nat → Nat) {v t j : Nat} (h : j < 57 + 24 * v + 2 * t ∨ 57 + 24 * v + 2 * t + 2 ≤ j) : mDs S v t j = S j := by
  unfold mDs
  split
  · rw [upN_n _ _ (by omega), upN_n _ _ (by omega)]
  · rfl
theorem mDrop_n (S : Nat → Nat) {v t a j : Nat} (h : j < 57 + 24 * v + 2 * t ∨ 57 + 24 * v + 2 * t + 2 ≤ j) (h2 : j ≠ 225 + 84 * v + 7 * t) : mDrop S v t a j = S j := by
  unfold mDrop
  split
  · rw [upN_n _ _ h2, mDs_n _ h]
  · rfl
theorem bS_Drop {S : Nat → Nat} (hB : bS S) {v t a : Nat} (hv : v < 7) (ht : t < 12) : bS (mDrop S v t a) := by
  unfold mDrop
  split
  · refine bS_upN ?_ (by omega) (by decide)
    unfold mDs
    split
    · exact bS_upN (bS_upN hB (by omega) (hB.1 _ (by omega) (by omega))) (by omega) (hB.1 _ (by omega) (by omega))
    · exact hB
  · exact hB
theorem bW_Drop {S : Nat → Nat} (hW : bW S) {v t a : Nat} (hv : v < 7) (ht : t < 12) : bW (mDrop S v t a) := by
  intro v' t' h1 h2
  rw [mDrop_n S (by omega) (by omega), mDrop_n S (by omega) (by omega)]
  exact hW v' t' h1 h2
def mDt (S : Nat → Nat) (v a : Nat) : Nat → (Nat → Nat) × Nat
  | 0 => (S, 0)
  | t + 1 => (mDrop (mDt S v a t).1 v t a, (mDt S v a t).2 + mDr (mDt S v a t).1 v t a)
theorem mDt_s (S : Nat → Nat) (v a t : Nat) : mDt S v a (t + 1) = (mDrop (mDt S v a t).1 v t a, (mDt S v a t).2 + mDr (mDt S v a t).1 v t a) := rfl
def mRow (S : Nat → Nat) (v a : Nat) : (Nat → Nat) × Nat := mDt S v a 12
def mDv (S : Nat → Nat) (a : Nat) : Nat → (Nat → Nat) × Nat
  | 0 => (S, 0)
  | v + 1 => ((mRow (mDv S a v).1 v a).1, (mDv S a v).2 + (mRow (mDv S a v).1 v a).2)
theorem mDv_s (S : Nat → Nat) (a v : Nat) : mDv S a (v + 1) = ((mRow (mDv S a v).1 v a).1, (mDv S a v).2 + (mRow (mDv S a v).1 v a).2) := rfl
theorem mDt_n (S : Nat → Nat) {v a j : Nat} (hj : j < 57 ∨ (225 ≤ j ∧ (j - 225) % 7 ≠ 0)) : ∀ t, t ≤ 12 → v < 7 → (mDt S v a t).1 j = S j
  | 0, _, _ => rfl
  | t + 1, h, hv => by
    rw [mDt_s]
    show mDrop (mDt S v a t).1 v t a j = S j
    rw [mDrop_n _ (by omega) (by omega)]
    exact mDt_n S hj t (by omega) hv
theorem mDv_n (S : Nat → Nat) {a j : Nat} (hj : j < 57 ∨ (225 ≤ j ∧ (j - 225) % 7 ≠ 0)) : ∀ v, v ≤ 7 → (mDv S a v).1 j = S j
  | 0, _ => rfl
  | v + 1, h => by
    simp only [mDv_s, mRow]
    rw [mDt_n _ hj 12 (Nat.le_refl _) (by omega)]
    exact mDv_n S hj v (by omega)
theorem bS_Dt {S : Nat → Nat} (hB : bS S) (hW : bW S) {v a : Nat} (hv : v < 7) : ∀ t, t ≤ 12 → bS (mDt S v a t).1 ∧ bW (mDt S v a t).1
  | 0, _ => ⟨hB, hW⟩
  | t + 1, h => ⟨bS_Drop (bS_Dt hB hW hv t (by omega)).1 hv (by omega), bW_Drop (bS_Dt hB hW hv t (by omega)).2 hv (by omega)⟩
theorem bS_Dv {S : Nat → Nat} (hB : bS S) (hW : bW S) {a : Nat} : ∀ v, v ≤ 7 → bS (mDv S a v).1 ∧ bW (mDv S a v).1
  | 0, _ => ⟨hB, hW⟩
  | v + 1, h => by
    simp only [mDv_s, mRow]
    exact bS_Dt (bS_Dv hB hW v (by omega)).1 (bS_Dv hB hW v (by omega)).2 (by omega) 12 (Nat.le_refl _)
theorem mDt_c (S : Nat → Nat) (v a : Nat) : ∀ t, (mDt S v a t).2 ≤ t
  | 0 => Nat.le_refl _
  | t + 1 => by
    have := mDt_c S v a t
    rw [mDt_s]
    show (mDt S v a t).2 + mDr (mDt S v a t).1 v t a ≤ t + 1
    have h2 : mDr (mDt S v a t).1 v t a ≤ 1 := by unfold mDr; split <;> omega
    omega
theorem mDv_c (S : Nat → Nat) (a : Nat) : ∀ v, (mDv S a v).2 ≤ 12 * v
  | 0 => Nat.le_refl _
  | v + 1 => by
    have h1 := mDv_c S a v
    have h2 : (mRow (mDv S a v).1 v a).2 ≤ 12 := by unfold mRow; exact mDt_c (mDv S a v).1 v a 12
    simp only [mDv_s]
    omega
def mHere (S : Nat → Nat) (n : Nat) : Nat := bits (fun v => !(decide (S (5 + 4 * v + 0) = 2))) n
theorem bits_lt (p : Nat → Bool) : ∀ n, bits p n < 2 ^ n
  | 0 => by show 0 < 1; decide
  | n + 1 => by
    show bits p n ||| (if p n = true then 2 ^ n else 0) < 2 ^ (n + 1)
    refine Nat.or_lt_two_pow (Nat.lt_trans (bits_lt p n) (Nat.pow_lt_pow_right (by decide) (by omega))) ?_
    split
    · exact Nat.pow_lt_pow_right (by decide) (by omega)
    · exact Nat.two_pow_pos _
def mTick1 (S : Nat → Nat) : (Nat → Nat) × Nat := mDv (upN S 1 (S 1 + 1)) (mHere (upN S 1 (S 1 + 1)) (S 0)) (S 0)
def mTickI (S : Nat → Nat) : Nat → (Nat → Nat) × Nat
  | 0 => (S, 0)
  | k + 1 => ((mTick1 (mTickI S k).1).1, (mTickI S k).2 + (mTick1 (mTickI S k).1).2)
theorem mTick1_t {S : Nat → Nat} (h : S 0 ≤ 7) : (mTick1 S).1 1 = S 1 + 1 ∧ (mTick1 S).1 0 = S 0 := by
  unfold mTick1
  rw [mDv_n _ (Or.inl (by decide)) _ h, mDv_n _ (Or.inl (by decide)) _ h]
  exact ⟨upN_s _ _ _, upN_n _ _ (by decide)⟩
theorem mTick1_b {S : Nat → Nat} (hB : bS S) (hW : bW S) (ht : S 1 + 1 < 2 ^ 30) : bS (mTick1 S).1 ∧ bW (mTick1 S).1 := by
  refine bS_Dv (bS_upN hB (by decide) ht) (fun v t h1 h2 => ?_) _ hB.2.2.1
  rw [upN_n _ _ (by omega), upN_s]
  have := hW v t h1 h2
  omega
theorem mTickI_t {S : Nat → Nat} (h : S 0 ≤ 7) : ∀ k, (mTickI S k).1 1 = S 1 + k ∧ (mTickI S k).1 0 = S 0
  | 0 => ⟨rfl, rfl⟩
  | k + 1 => by
    have h1 := mTickI_t h k
    have h2 := mTick1_t (S := (mTickI S k).1) (by rw [h1.2]; exact h)
    exact ⟨by show (mTick1 (mTickI S k).1).1 1 = _; rw [h2.1, h1.1]; omega, by show (mTick1 (mTickI S k).1).1 0 = _; rw [h2.2, h1.2]⟩
theorem mTickI_b {S : Nat → Nat} (hB : bS S) (hW : bW S) : ∀ k, S 1 + k < 2 ^ 30 → bS (mTickI S k).1 ∧ bW (mTickI S k).1
  | 0, _ => ⟨hB, hW⟩
  | k + 1, h => by
    have h1 := mTickI_b hB hW k (by omega)
    exact mTick1_b h1.1 h1.2 (by rw [(mTickI_t hB.2.2.1 k).1]; omega)
def mTicks (S : Nat → Nat) (v : Int32) : (Nat → Nat) × Int32 := if inN 1 60 v = true then (if 100000 < S 1 + ix v then (S, -1000003) else ((mTickI S (ix v)).1, nI (mTickI S (ix v)).2)) else (S, -1000001)
/-- 0 for nobody, else the number and one more -/
def bv (b : Nat) : Int32 := if b = 0 then -1 else nI (b - 1)
def mBest (S : Nat → Nat) (t : Nat) : Nat → Nat
  | 0 => 0
  | v + 1 => if S (225 + 84 * v + 7 * t + 0) ≠ 0 ∧ (mBest S t v = 0 ∨ mHN S v (mBest S t v - 1) t = true) then v + 1 else mBest S t v
theorem mBest_le (S : Nat → Nat) (t : Nat) : ∀ n, mBest S t n ≤ n
  | 0 => Nat.le_refl _
  | n + 1 => by
    have := mBest_le S t n
    unfold mBest
    split <;> omega
def mNewest (S : Nat → Nat) (v : Int32) : Int32 := if hasN 12 v = true then (if mBest S (ix v) (S 0) = 0 then -1000004 else nI (bits (fun u => mSame S u (mBest S (ix v) (S 0) - 1) (ix v)) (S 0))) else -1000001
def mUnlike (S : Nat → Nat) (v u : Int32) : Int32 := if hasN (S 0) v = true ∧ hasN (S 0) u = true then nI (bits (fun t => !(mSame S (ix v) (ix u) t)) 12) else -1000001
def mDeads (S : Nat → Nat) (v : Int32) : Int32 := if hasN (S 0) v = true then nI (bits (fun t => mDead S (ix v) t) 12) else -1000001
abbrev rm_X4_isDead : Room := { frames := 2, cells := 0, slots := 0, locals := 44 }
set_option maxHeartbeats 4000000 in
set_option maxRecDepth 20000 in
theorem c_X4_isDead {l : Launch} {g : Geo} {w : WD} {V : Nat → Nat → Nat} {S : Nat → Nat} {v t : Nat} (hv : v < 7) (ht : t < 12) (hB : bS S) : CtI l g yX4_isDead cX4_isDead 3 (some .boolean) rm_X4_isDead [.ref (g_ad g 9 0), .int (nI v), .int (nI t)] (mW w V S) (bI (mDead S v t)) (mW w V S) := by
  refine ct_of mi_X4_isDead.2.2.2.2.2 ⟨rfl, rfl⟩ (List.forall_mem_cons.mpr ⟨rfl, List.forall_mem_cons.mpr ⟨rfl, List.forall_mem_cons.mpr ⟨rfl, fun _ h => absurd h List.not_mem_nil⟩⟩⟩) (Nat.le_of_ble_eq_true rfl) (fun P hX => ?_)
  replace hX : Gd l g RX4 cX4_isDead rm_X4_isDead 3 (some .boolean) _ _ P := hX
  show P (mW w V S) 0 [some (.ref (g_ad g 9 0)), some (.int (nI v)), some (.int (nI t))] []
  have h7 := hB.2.2.1
  refine pw_aload_n hX rfl dX4_isDead_0 (q := 1) rfl ?_
  refine pw_iload_n hX rfl dX4_isDead_1 (q := 2) rfl ?_
  refine pw_iload_n hX rfl dX4_isDead_2 (q := 3) rfl ?_
  refine pw_iconst hX (k := 0) rfl (by decide) dX4_isDead_3 (q := 4) rfl ?_
  refine pw_cvI3 hX dX4_isDead_4 (q := 7) rfl mi_X4_en ml_X4_73 rcM ⟨rfl, rfl, by decide, by decide⟩ rfl (Nat.le_of_ble_eq_true rfl) (c_X4_en (by first | assumption | omega) (by first | assumption | omega) (by first | assumption | omega)) ?_
  refine pw_iconst hX (k := 1) rfl (by decide) dX4_isDead_7 (q := 8) rfl ?_
  refine pw_icmpN_ne hX (by first | omega | exact bS0 hB | exact bSw hB (by omega) (by omega) (by omega) | exact bSe hB (by omega) (by omega) | exact bS1 hB | exact bS2 hB) (by first | omega | exact bS0 hB | exact bSw hB (by omega) (by omega) (by omega) | exact bSe hB (by omega) (by omega) | exact bS1 hB | exact bS2 hB) (tgt := 59) dX4_isDead_8 (q := 11) rfl (by decide) (fun h_8 => ?_) (fun h_8 => ?_)
  · refine pw_iconst hX (k := 0) rfl (by decide) dX4_isDead_59 (q := 60) rfl ?_
    refine pw_ireturn hX dX4_isDead_60 ⟨_, rfl, by first | exact bI_nar _ | decide | rfl⟩ ⟨congrArg (fun z => some (Value.int z)) ?_, ?_⟩
    · first | (rw [show mDead S v t = false from decide_eq_false (fun z => h_8 z.1)]; rfl) | (rw [show mDead S v t = true from decide_eq_true ⟨h_8, h_52⟩]; rfl) | (rw [show mDead S v t = false from decide_eq_false (fun z => by simp [h_52] at z)]; rfl)
    · rfl
  · refine pw_aload_n hX rfl dX4_isDead_11 (q := 12) rfl ?_
    refine pw_getMS hX 0 (by decide) fl_X4_7 rfl dX4_isDead_12 (q := 15) rfl ?_
    refine pw_bipush hX (k := 33) (by decide) dX4_isDead_15 (q := 17) rfl ?_
    refine pw_iconst hX (k := 2) rfl (by decide) dX4_isDead_17 (q := 18) rfl ?_
    refine pw_iload_n hX rfl dX4_isDead_18 (q := 19) rfl ?_
    refine pw_imulN hX dX4_isDead_19 (q := 20) rfl ?_
    refine pw_iaddN hX dX4_isDead_20 (q := 21) rfl ?_
    refine pw_ialdS hX (by omega) dX4_isDead_21 (q := 22) rfl ?_
    refine pw_aload_n hX rfl dX4_isDead_22 (q := 23) rfl ?_
    refine pw_getMS hX 0 (by decide) fl_X4_7 rfl dX4_isDead_23 (q := 26) rfl ?_
    refine pw_bipush hX (k := 33) (by decide) dX4_isDead_26 (q := 28) rfl ?_
    refine pw_iconst hX (k := 2) rfl (by decide) dX4_isDead_28 (q := 29) rfl ?_
    refine pw_iload_n hX rfl dX4_isDead_29 (q := 30) rfl ?_
    refine pw_imulN hX dX4_isDead_30 (q := 31) rfl ?_
    refine pw_iaddN hX dX4_isDead_31 (q := 32) rfl ?_
    refine pw_iconst hX (k := 1) rfl (by decide) dX4_isDead_32 (q := 33) rfl ?_
    refine pw_iaddN hX dX4_isDead_33 (q := 34) rfl ?_
    refine pw_ialdS hX (by omega) dX4_isDead_34 (q := 35) rfl ?_
    refine pw_aload_n hX rfl dX4_isDead_35 (q := 36) rfl ?_
    refine pw_iload_n hX rfl dX4_isDead_36 (q := 37) rfl ?_
    refine pw_iload_n hX rfl dX4_isDead_37 (q := 38) rfl ?_
    refine pw_iconst hX (k := 1) rfl (by decide) dX4_isDead_38 (q := 39) rfl ?_
    refine pw_cvI3 hX dX4_isDead_39 (q := 42) rfl mi_X4_en ml_X4_73 rcM ⟨rfl, rfl, by decide, by decide⟩ rfl (Nat.le_of_ble_eq_true rfl) (c_X4_en (by first | assumption | omega) (by first | assumption | omega) (by first | assumption | omega)) ?_
    refine pw_aload_n hX rfl dX4_isDead_42 (q := 43) rfl ?_
    refine pw_iload_n hX rfl dX4_isDead_43 (q := 44) rfl ?_
    refine pw_iload_n hX rfl dX4_isDead_44 (q := 45) rfl ?_
    refine pw_iconst hX (k := 2) rfl (by decide) dX4_isDead_45 (q := 46) rfl ?_
    refine pw_cvI3 hX dX4_isDead_46 (q := 49) rfl mi_X4_en ml_X4_73 rcM ⟨rfl, rfl, by decide, by decide⟩ rfl (Nat.le_of_ble_eq_true rfl) (c_X4_en (by first | assumption | omega) (by first | assumption | omega) (by first | assumption | omega)) ?_
    refine pw_csI4 hX dX4_isDead_49 (q := 52) rfl mi_X4_isNewer ml_X4_81 ⟨rfl, rfl, by decide, by decide⟩ rfl (Nat.le_of_ble_eq_true rfl) (c_X4_isNewer (bSe hB (by omega) (by omega)) (bSe hB (by omega) (by omega)) (bSe hB (by omega) (by omega)) (bSe hB (by omega) (by omega))) ?_
    refine pw_ifB_eq hX (tgt := 59) dX4_isDead_52 (q := 55) rfl (by decide) (fun h_52 => ?_) (fun h_52 => ?_)
    · refine pw_iconst hX (k := 0) rfl (by decide) dX4_isDead_59 (q := 60) rfl ?_
      refine pw_ireturn hX dX4_isDead_60 ⟨_, rfl, by first | exact bI_nar _ | decide | rfl⟩ ⟨congrArg (fun z => some (Value.int z)) ?_, ?_⟩
      · first | (rw [show mDead S v t = false from decide_eq_false (fun z => h_8 z.1)]; rfl) | (rw [show mDead S v t = true from decide_eq_true ⟨h_8, h_52⟩]; rfl) | (rw [show mDead S v t = false from decide_eq_false (fun z => by simp [h_52] at z)]; rfl)
      · rfl
    · refine pw_iconst hX (k := 1) rfl (by decide) dX4_isDead_55 (q := 56) rfl ?_
      refine pw_goto hX (tgt := 60) dX4_isDead_56 (by decide) ?_
      refine pw_ireturn hX dX4_isDead_60 ⟨_, rfl, by first | exact bI_nar _ | decide | rfl⟩ ⟨congrArg (fun z => some (Value.int z)) ?_, ?_⟩
      · first | (rw [show mDead S v t = false from decide_eq_false (fun z => h_8 z.1)]; rfl) | (rw [show mDead S v t = true from decide_eq_true ⟨h_8, h_52⟩]; rfl) | (rw [show mDead S v t = false from decide_eq_false (fun z => by simp [h_52] at z)]; rfl)
      · rfl
abbrev rm_X4_entryOf : Room := { frames := 3, cells := 0, slots := 0, locals := 66 }
set_option maxHeartbeats 4000000 in
set_option maxRecDepth 20000 in
theorem c_X4_entryOf {l : Launch} {g : Geo} {w : WD} {V : Nat → Nat → Nat} {S : Nat → Nat} {v t a : Int32} (hB : bS S) : CtI l g yX4_entryOf cX4_entryOf 6 (some .int) rm_X4_entryOf [.ref (g_ad g 9 0), .int v, .int t, .int a] (mW w V S) (mEOf S v t a) (mW w V S) := by
  refine ct_of mi_X4_entryOf.2.2.2.2.2 ⟨rfl, rfl⟩ (List.forall_mem_cons.mpr ⟨rfl, List.forall_mem_cons.mpr ⟨rfl, List.forall_mem_cons.mpr ⟨rfl, List.forall_mem_cons.mpr ⟨rfl, fun _ h => absurd h List.not_mem_nil⟩⟩⟩⟩) (Nat.le_of_ble_eq_true rfl) (fun P hX => ?_)
  replace hX : Gd l g RX4 cX4_entryOf rm_X4_entryOf 6 (some .int) _ _ P := hX
  show P (mW w V S) 0 [some (.ref (g_ad g 9 0)), some (.int v), some (.int t), some (.int a), none, none] []
  have h7 := hB.2.2.1
  refine pw_aload_n hX rfl dX4_entryOf_0 (q := 1) rfl ?_
  refine pw_iload_n hX rfl dX4_entryOf_1 (q := 2) rfl ?_
  refine pw_cvI1 hX dX4_entryOf_2 (q := 5) rfl mi_X4_isVillager ml_X4_53 rcM ⟨rfl, rfl, by decide, by decide⟩ rfl (Nat.le_of_ble_eq_true rfl) (c_X4_isVillager (by first | assumption | omega)) ?_
  refine pw_ifB_eq hX (tgt := 25) dX4_entryOf_5 (q := 8) rfl (by decide) (fun h_5 => ?_) (fun h_5 => ?_)
  · refine pw_ldc hX cn_X4_40 dX4_entryOf_25 (q := 27) rfl ?_
    refine pw_ireturn hX dX4_entryOf_27 ⟨_, rfl, rfl⟩ ⟨congrArg (fun z => some (Value.int z)) ?_, ?_⟩
    · rw [mEOf, if_neg (by rintro ⟨a1, a2, a3⟩; simp_all)]
    · rfl
  · obtain ⟨i, hi, rfl⟩ := hasN_of (by have := hB.2.2.1; omega) h_5
    have hx : ix (nI i) = i := ix_nI (by have := hB.2.2.1; omega)
    have h7 := hB.2.2.1
    refine pw_iload_n hX rfl dX4_entryOf_8 (q := 9) rfl ?_
    refine pw_csI1 hX dX4_entryOf_9 (q := 12) rfl mi_X4_isTopic ml_X4_88 ⟨rfl, rfl, by decide, by decide⟩ rfl (Nat.le_of_ble_eq_true rfl) (c_X4_isTopic) ?_
    refine pw_ifB_eq hX (tgt := 25) dX4_entryOf_12 (q := 15) rfl (by decide) (fun h_12 => ?_) (fun h_12 => ?_)
    · refine pw_ldc hX cn_X4_40 dX4_entryOf_25 (q := 27) rfl ?_
      refine pw_ireturn hX dX4_entryOf_27 ⟨_, rfl, rfl⟩ ⟨congrArg (fun z => some (Value.int z)) ?_, ?_⟩
      · rw [mEOf, if_neg (by rintro ⟨a1, a2, a3⟩; simp_all)]
      · rfl
    · obtain ⟨j, hj, rfl⟩ := hasN_of (by decide) h_12
      have hxj : ix (nI j) = j := ix_nI (by omega)
      refine pw_iload_n hX rfl dX4_entryOf_15 (q := 16) rfl ?_
      refine pw_iconst hX (k := 0) rfl (by decide) dX4_entryOf_16 (q := 17) rfl ?_
      refine pw_bipush hX (k := 7) (by decide) dX4_entryOf_17 (q := 19) rfl ?_
      refine pw_csI3 hX dX4_entryOf_19 (q := 22) rfl mi_X4_in ml_X4_33 ⟨rfl, rfl, by decide, by decide⟩ rfl (Nat.le_of_ble_eq_true rfl) (c_X4_inN (by decide) (by decide)) ?_
      refine pw_ifB_ne hX (tgt := 28) dX4_entryOf_22 (q := 25) rfl (by decide) (fun h_22 => ?_) (fun h_22 => ?_)
      · obtain ⟨k, -, hk, rfl⟩ := inN_of (by decide) h_22
        have hxk : ix (nI k) = k := ix_nI (by omega)
        refine pw_aload_n hX rfl dX4_entryOf_28 (q := 29) rfl ?_
        refine pw_iload_n hX rfl dX4_entryOf_29 (q := 30) rfl ?_
        refine pw_iload_n hX rfl dX4_entryOf_30 (q := 31) rfl ?_
        refine pw_iconst hX (k := 0) rfl (by decide) dX4_entryOf_31 (q := 32) rfl ?_
        refine pw_cvI3 hX dX4_entryOf_32 (q := 35) rfl mi_X4_en ml_X4_73 rcM ⟨rfl, rfl, by decide, by decide⟩ rfl (Nat.le_of_ble_eq_true rfl) (c_X4_en (by first | assumption | omega) (by first | assumption | omega) (by first | assumption | omega)) ?_
        refine pw_istore hX (by decide) dX4_entryOf_35 (q := 37) rfl ?_
        refine pw_iload_n hX rfl dX4_entryOf_37 (q := 38) rfl ?_
        refine pw_iconst hX (k := 3) rfl (by decide) dX4_entryOf_38 (q := 39) rfl ?_
        refine pw_icmpN_ge hX (by first | omega | exact bS0 hB | exact bSw hB (by omega) (by omega) (by omega) | exact bSe hB (by omega) (by omega) | exact bS1 hB | exact bS2 hB) (by first | omega | exact bS0 hB | exact bSw hB (by omega) (by omega) (by omega) | exact bSe hB (by omega) (by omega) | exact bS1 hB | exact bS2 hB) (tgt := 46) dX4_entryOf_39 (q := 42) rfl (by decide) (fun h_39 => ?_) (fun h_39 => ?_)
        · refine pw_iload_n hX rfl dX4_entryOf_46 (q := 47) rfl ?_
          refine pw_iconst hX (k := 5) rfl (by decide) dX4_entryOf_47 (q := 48) rfl ?_
          refine pw_icmpN_eq hX (by first | omega | exact bS0 hB | exact bSw hB (by omega) (by omega) (by omega) | exact bSe hB (by omega) (by omega) | exact bS1 hB | exact bS2 hB) (by first | omega | exact bS0 hB | exact bSw hB (by omega) (by omega) (by omega) | exact bSe hB (by omega) (by omega) | exact bS1 hB | exact bS2 hB) (tgt := 57) dX4_entryOf_48 (q := 51) rfl (by decide) (fun h_48 => ?_) (fun h_48 => ?_)
          · refine pw_iconst hX (k := 2) rfl (by decide) dX4_entryOf_57 (q := 58) rfl ?_
            refine pw_goto hX (tgt := 62) dX4_entryOf_58 (by decide) ?_
            have hne : mNeeds k = 2 := by unfold mNeeds; rw [if_neg (by omega), if_pos (by omega)]
            refine pw_istore hX (by decide) dX4_entryOf_62 (q := 64) rfl ?_
            refine pw_iload hX rfl dX4_entryOf_64 (q := 66) rfl ?_
            refine pw_ifN_eq hX (by first | omega | exact bS0 hB | exact bSw hB (by omega) (by omega) (by omega) | exact bSe hB (by omega) (by omega) | exact bS1 hB | exact bS2 hB) (tgt := 81) dX4_entryOf_66 (q := 69) rfl (by decide) (fun h_66 => ?_) (fun h_66 => ?_)
            · refine pw_ldc hX cn_X4_80 dX4_entryOf_81 (q := 83) rfl ?_
              refine pw_ireturn hX dX4_entryOf_83 ⟨_, rfl, rfl⟩ ⟨congrArg (fun z => some (Value.int z)) ?_, ?_⟩
              · rw [mEOf, if_pos ⟨h_5, h_12, h_22⟩, hx, hxj, hxk, if_pos (by omega)]
              · rfl
            · refine pw_iload hX rfl dX4_entryOf_69 (q := 71) rfl ?_
              refine pw_ifN_le hX (by first | omega | exact bS0 hB | exact bSw hB (by omega) (by omega) (by omega) | exact bSe hB (by omega) (by omega) | exact bS1 hB | exact bS2 hB) (tgt := 84) dX4_entryOf_71 (q := 74) rfl (by decide) (fun h_71 => ?_) (fun h_71 => ?_)
              · refine pw_iload_n hX rfl dX4_entryOf_84 (q := 85) rfl ?_
                refine pw_ifN_ne hX (by first | omega | exact bS0 hB | exact bSw hB (by omega) (by omega) (by omega) | exact bSe hB (by omega) (by omega) | exact bS1 hB | exact bS2 hB) (tgt := 95) dX4_entryOf_85 (q := 88) rfl (by decide) (fun h_85 => ?_) (fun h_85 => ?_)
                · refine pw_iload_n hX rfl dX4_entryOf_95 (q := 96) rfl ?_
                  refine pw_bipush hX (k := 7) (by decide) dX4_entryOf_96 (q := 98) rfl ?_
                  refine pw_icmpN_ne hX (by first | omega | exact bS0 hB | exact bSw hB (by omega) (by omega) (by omega) | exact bSe hB (by omega) (by omega) | exact bS1 hB | exact bS2 hB) (by first | omega | exact bS0 hB | exact bSw hB (by omega) (by omega) (by omega) | exact bSe hB (by omega) (by omega) | exact bS1 hB | exact bS2 hB) (tgt := 118) dX4_entryOf_98 (q := 101) rfl (by decide) (fun h_98 => ?_) (fun h_98 => ?_)
                  · refine pw_aload_n hX rfl dX4_entryOf_118 (q := 119) rfl ?_
                    refine pw_iload_n hX rfl dX4_entryOf_119 (q := 120) rfl ?_
                    refine pw_iload_n hX rfl dX4_entryOf_120 (q := 121) rfl ?_
                    refine pw_iload_n hX rfl dX4_entryOf_121 (q := 122) rfl ?_
                    refine pw_cvI3 hX dX4_entryOf_122 (q := 125) rfl mi_X4_en ml_X4_73 rcM ⟨rfl, rfl, by decide, by decide⟩ rfl (Nat.le_of_ble_eq_true rfl) (c_X4_en (by first | assumption | omega) (by first | assumption | omega) (by first | assumption | omega)) ?_
                    refine pw_ireturn hX dX4_entryOf_125 ⟨_, rfl, rfl⟩ ⟨congrArg (fun z => some (Value.int z)) ?_, ?_⟩
                    · rw [mEOf, if_pos ⟨h_5, h_12, h_22⟩, hx, hxj, hxk, if_neg (by omega)]; first | (rw [if_pos (by omega)]; done) | (rw [if_neg (by omega), if_pos (by omega), h_107]; done) | (rw [if_neg (by omega), if_pos (by omega), h_107]; rfl) | (rw [if_neg (by omega), if_neg (by omega)]; done)
                    · rfl
                  · refine pw_aload_n hX rfl dX4_entryOf_101 (q := 102) rfl ?_
                    refine pw_iload_n hX rfl dX4_entryOf_102 (q := 103) rfl ?_
                    refine pw_iload_n hX rfl dX4_entryOf_103 (q := 104) rfl ?_
                    refine pw_cvI2 hX dX4_entryOf_104 (q := 107) rfl mi_X4_isDead ml_X4_120 rcM ⟨rfl, rfl, by decide, by decide⟩ rfl (Nat.le_of_ble_eq_true rfl) (c_X4_isDead (by first | assumption | omega) (by first | assumption | omega) (by first | assumption | omega)) ?_
                    refine pw_ifB_eq hX (tgt := 114) dX4_entryOf_107 (q := 110) rfl (by decide) (fun h_107 => ?_) (fun h_107 => ?_)
                    · refine pw_iconst hX (k := 0) rfl (by decide) dX4_entryOf_114 (q := 115) rfl ?_
                      refine pw_goto hX (tgt := 125) dX4_entryOf_115 (by decide) ?_
                      refine pw_ireturn hX dX4_entryOf_125 ⟨_, rfl, rfl⟩ ⟨congrArg (fun z => some (Value.int z)) ?_, ?_⟩
                      · rw [mEOf, if_pos ⟨h_5, h_12, h_22⟩, hx, hxj, hxk, if_neg (by omega)]; first | (rw [if_pos (by omega)]; done) | (rw [if_neg (by omega), if_pos (by omega), h_107]; done) | (rw [if_neg (by omega), if_pos (by omega), h_107]; rfl) | (rw [if_neg (by omega), if_neg (by omega)]; done)
                      · rfl
                    · refine pw_iconst hX (k := 1) rfl (by decide) dX4_entryOf_110 (q := 111) rfl ?_
                      refine pw_goto hX (tgt := 125) dX4_entryOf_111 (by decide) ?_
                      refine pw_ireturn hX dX4_entryOf_125 ⟨_, rfl, rfl⟩ ⟨congrArg (fun z => some (Value.int z)) ?_, ?_⟩
                      · rw [mEOf, if_pos ⟨h_5, h_12, h_22⟩, hx, hxj, hxk, if_neg (by omega)]; first | (rw [if_pos (by omega)]; done) | (rw [if_neg (by omega), if_pos (by omega), h_107]; done) | (rw [if_neg (by omega), if_pos (by omega), h_107]; rfl) | (rw [if_neg (by omega), if_neg (by omega)]; done)
                      · rfl
                · refine pw_iload hX rfl dX4_entryOf_88 (q := 90) rfl ?_
                  refine pw_iconst hX (k := 1) rfl (by decide) dX4_entryOf_90 (q := 91) rfl ?_
                  refine pw_isubN hX (by first | assumption | omega) dX4_entryOf_91 (q := 92) rfl ?_
                  refine pw_goto hX (tgt := 125) dX4_entryOf_92 (by decide) ?_
                  refine pw_ireturn hX dX4_entryOf_125 ⟨_, rfl, rfl⟩ ⟨congrArg (fun z => some (Value.int z)) ?_, ?_⟩
                  · rw [mEOf, if_pos ⟨h_5, h_12, h_22⟩, hx, hxj, hxk, if_neg (by omega)]; first | (rw [if_pos (by omega)]; done) | (rw [if_neg (by omega), if_pos (by omega), h_107]; done) | (rw [if_neg (by omega), if_pos (by omega), h_107]; rfl) | (rw [if_neg (by omega), if_neg (by omega)]; done)
                  · rfl
              · refine pw_iload hX rfl dX4_entryOf_74 (q := 76) rfl ?_
                refine pw_iload hX rfl dX4_entryOf_76 (q := 78) rfl ?_
                refine pw_icmpN_eq hX (by first | omega | exact bS0 hB | exact bSw hB (by omega) (by omega) (by omega) | exact bSe hB (by omega) (by omega) | exact bS1 hB | exact bS2 hB) (by first | omega | exact bS0 hB | exact bSw hB (by omega) (by omega) (by omega) | exact bSe hB (by omega) (by omega) | exact bS1 hB | exact bS2 hB) (tgt := 84) dX4_entryOf_78 (q := 81) rfl (by decide) (fun h_78 => ?_) (fun h_78 => ?_)
                · refine pw_iload_n hX rfl dX4_entryOf_84 (q := 85) rfl ?_
                  refine pw_ifN_ne hX (by first | omega | exact bS0 hB | exact bSw hB (by omega) (by omega) (by omega) | exact bSe hB (by omega) (by omega) | exact bS1 hB | exact bS2 hB) (tgt := 95) dX4_entryOf_85 (q := 88) rfl (by decide) (fun h_85 => ?_) (fun h_85 => ?_)
                  · refine pw_iload_n hX rfl dX4_entryOf_95 (q := 96) rfl ?_
                    refine pw_bipush hX (k := 7) (by decide) dX4_entryOf_96 (q := 98) rfl ?_
                    refine pw_icmpN_ne hX (by first | omega | exact bS0 hB | exact bSw hB (by omega) (by omega) (by omega) | exact bSe hB (by omega) (by omega) | exact bS1 hB | exact bS2 hB) (by first | omega | exact bS0 hB | exact bSw hB (by omega) (by omega) (by omega) | exact bSe hB (by omega) (by omega) | exact bS1 hB | exact bS2 hB) (tgt := 118) dX4_entryOf_98 (q := 101) rfl (by decide) (fun h_98 => ?_) (fun h_98 => ?_)
                    · refine pw_aload_n hX rfl dX4_entryOf_118 (q := 119) rfl ?_
                      refine pw_iload_n hX rfl dX4_entryOf_119 (q := 120) rfl ?_
                      refine pw_iload_n hX rfl dX4_entryOf_120 (q := 121) rfl ?_
                      refine pw_iload_n hX rfl dX4_entryOf_121 (q := 122) rfl ?_
                      refine pw_cvI3 hX dX4_entryOf_122 (q := 125) rfl mi_X4_en ml_X4_73 rcM ⟨rfl, rfl, by decide, by decide⟩ rfl (Nat.le_of_ble_eq_true rfl) (c_X4_en (by first | assumption | omega) (by first | assumption | omega) (by first | assumption | omega)) ?_
                      refine pw_ireturn hX dX4_entryOf_125 ⟨_, rfl, rfl⟩ ⟨congrArg (fun z => some (Value.int z)) ?_, ?_⟩
                      · rw [mEOf, if_pos ⟨h_5, h_12, h_22⟩, hx, hxj, hxk, if_neg (by omega)]; first | (rw [if_pos (by omega)]; done) | (rw [if_neg (by omega), if_pos (by omega), h_107]; done) | (rw [if_neg (by omega), if_pos (by omega), h_107]; rfl) | (rw [if_neg (by omega), if_neg (by omega)]; done)
                      · rfl
                    · refine pw_aload_n hX rfl dX4_entryOf_101 (q := 102) rfl ?_
                      refine pw_iload_n hX rfl dX4_entryOf_102 (q := 103) rfl ?_
                      refine pw_iload_n hX rfl dX4_entryOf_103 (q := 104) rfl ?_
                      refine pw_cvI2 hX dX4_entryOf_104 (q := 107) rfl mi_X4_isDead ml_X4_120 rcM ⟨rfl, rfl, by decide, by decide⟩ rfl (Nat.le_of_ble_eq_true rfl) (c_X4_isDead (by first | assumption | omega) (by first | assumption | omega) (by first | assumption | omega)) ?_
                      refine pw_ifB_eq hX (tgt := 114) dX4_entryOf_107 (q := 110) rfl (by decide) (fun h_107 => ?_) (fun h_107 => ?_)
                      · refine pw_iconst hX (k := 0) rfl (by decide) dX4_entryOf_114 (q := 115) rfl ?_
                        refine pw_goto hX (tgt := 125) dX4_entryOf_115 (by decide) ?_
                        refine pw_ireturn hX dX4_entryOf_125 ⟨_, rfl, rfl⟩ ⟨congrArg (fun z => some (Value.int z)) ?_, ?_⟩
                        · rw [mEOf, if_pos ⟨h_5, h_12, h_22⟩, hx, hxj, hxk, if_neg (by omega)]; first | (rw [if_pos (by omega)]; done) | (rw [if_neg (by omega), if_pos (by omega), h_107]; done) | (rw [if_neg (by omega), if_pos (by omega), h_107]; rfl) | (rw [if_neg (by omega), if_neg (by omega)]; done)
                        · rfl
                      · refine pw_iconst hX (k := 1) rfl (by decide) dX4_entryOf_110 (q := 111) rfl ?_
                        refine pw_goto hX (tgt := 125) dX4_entryOf_111 (by decide) ?_
                        refine pw_ireturn hX dX4_entryOf_125 ⟨_, rfl, rfl⟩ ⟨congrArg (fun z => some (Value.int z)) ?_, ?_⟩
                        · rw [mEOf, if_pos ⟨h_5, h_12, h_22⟩, hx, hxj, hxk, if_neg (by omega)]; first | (rw [if_pos (by omega)]; done) | (rw [if_neg (by omega), if_pos (by omega), h_107]; done) | (rw [if_neg (by omega), if_pos (by omega), h_107]; rfl) | (rw [if_neg (by omega), if_neg (by omega)]; done)
                        · rfl
                  · refine pw_iload hX rfl dX4_entryOf_88 (q := 90) rfl ?_
                    refine pw_iconst hX (k := 1) rfl (by decide) dX4_entryOf_90 (q := 91) rfl ?_
                    refine pw_isubN hX (by first | assumption | omega) dX4_entryOf_91 (q := 92) rfl ?_
                    refine pw_goto hX (tgt := 125) dX4_entryOf_92 (by decide) ?_
                    refine pw_ireturn hX dX4_entryOf_125 ⟨_, rfl, rfl⟩ ⟨congrArg (fun z => some (Value.int z)) ?_, ?_⟩
                    · rw [mEOf, if_pos ⟨h_5, h_12, h_22⟩, hx, hxj, hxk, if_neg (by omega)]; first | (rw [if_pos (by omega)]; done) | (rw [if_neg (by omega), if_pos (by omega), h_107]; done) | (rw [if_neg (by omega), if_pos (by omega), h_107]; rfl) | (rw [if_neg (by omega), if_neg (by omega)]; done)
                    · rfl
                · refine pw_ldc hX cn_X4_80 dX4_entryOf_81 (q := 83) rfl ?_
                  refine pw_ireturn hX dX4_entryOf_83 ⟨_, rfl, rfl⟩ ⟨congrArg (fun z => some (Value.int z)) ?_, ?_⟩
                  · rw [mEOf, if_pos ⟨h_5, h_12, h_22⟩, hx, hxj, hxk, if_pos (by omega)]
                  · rfl
          · refine pw_iload_n hX rfl dX4_entryOf_51 (q := 52) rfl ?_
            refine pw_bipush hX (k := 6) (by decide) dX4_entryOf_52 (q := 54) rfl ?_
            refine pw_icmpN_ne hX (by first | omega | exact bS0 hB | exact bSw hB (by omega) (by omega) (by omega) | exact bSe hB (by omega) (by omega) | exact bS1 hB | exact bS2 hB) (by first | omega | exact bS0 hB | exact bSw hB (by omega) (by omega) (by omega) | exact bSe hB (by omega) (by omega) | exact bS1 hB | exact bS2 hB) (tgt := 61) dX4_entryOf_54 (q := 57) rfl (by decide) (fun h_54 => ?_) (fun h_54 => ?_)
            · refine pw_iconst hX (k := 1) rfl (by decide) dX4_entryOf_61 (q := 62) rfl ?_
              have hne : mNeeds k = 1 := by unfold mNeeds; rw [if_neg (by omega), if_neg (by omega)]
              refine pw_istore hX (by decide) dX4_entryOf_62 (q := 64) rfl ?_
              refine pw_iload hX rfl dX4_entryOf_64 (q := 66) rfl ?_
              refine pw_ifN_eq hX (by first | omega | exact bS0 hB | exact bSw hB (by omega) (by omega) (by omega) | exact bSe hB (by omega) (by omega) | exact bS1 hB | exact bS2 hB) (tgt := 81) dX4_entryOf_66 (q := 69) rfl (by decide) (fun h_66 => ?_) (fun h_66 => ?_)
              · refine pw_ldc hX cn_X4_80 dX4_entryOf_81 (q := 83) rfl ?_
                refine pw_ireturn hX dX4_entryOf_83 ⟨_, rfl, rfl⟩ ⟨congrArg (fun z => some (Value.int z)) ?_, ?_⟩
                · rw [mEOf, if_pos ⟨h_5, h_12, h_22⟩, hx, hxj, hxk, if_pos (by omega)]
                · rfl
              · refine pw_iload hX rfl dX4_entryOf_69 (q := 71) rfl ?_
                refine pw_ifN_le hX (by first | omega | exact bS0 hB | exact bSw hB (by omega) (by omega) (by omega) | exact bSe hB (by omega) (by omega) | exact bS1 hB | exact bS2 hB) (tgt := 84) dX4_entryOf_71 (q := 74) rfl (by decide) (fun h_71 => ?_) (fun h_71 => ?_)
                · refine pw_iload_n hX rfl dX4_entryOf_84 (q := 85) rfl ?_
                  refine pw_ifN_ne hX (by first | omega | exact bS0 hB | exact bSw hB (by omega) (by omega) (by omega) | exact bSe hB (by omega) (by omega) | exact bS1 hB | exact bS2 hB) (tgt := 95) dX4_entryOf_85 (q := 88) rfl (by decide) (fun h_85 => ?_) (fun h_85 => ?_)
                  · refine pw_iload_n hX rfl dX4_entryOf_95 (q := 96) rfl ?_
                    refine pw_bipush hX (k := 7) (by decide) dX4_entryOf_96 (q := 98) rfl ?_
                    refine pw_icmpN_ne hX (by first | omega | exact bS0 hB | exact bSw hB (by omega) (by omega) (by omega) | exact bSe hB (by omega) (by omega) | exact bS1 hB | exact bS2 hB) (by first | omega | exact bS0 hB | exact bSw hB (by omega) (by omega) (by omega) | exact bSe hB (by omega) (by omega) | exact bS1 hB | exact bS2 hB) (tgt := 118) dX4_entryOf_98 (q := 101) rfl (by decide) (fun h_98 => ?_) (fun h_98 => ?_)
                    · refine pw_aload_n hX rfl dX4_entryOf_118 (q := 119) rfl ?_
                      refine pw_iload_n hX rfl dX4_entryOf_119 (q := 120) rfl ?_
                      refine pw_iload_n hX rfl dX4_entryOf_120 (q := 121) rfl ?_
                      refine pw_iload_n hX rfl dX4_entryOf_121 (q := 122) rfl ?_
                      refine pw_cvI3 hX dX4_entryOf_122 (q := 125) rfl mi_X4_en ml_X4_73 rcM ⟨rfl, rfl, by decide, by decide⟩ rfl (Nat.le_of_ble_eq_true rfl) (c_X4_en (by first | assumption | omega) (by first | assumption | omega) (by first | assumption | omega)) ?_
                      refine pw_ireturn hX dX4_entryOf_125 ⟨_, rfl, rfl⟩ ⟨congrArg (fun z => some (Value.int z)) ?_, ?_⟩
                      · rw [mEOf, if_pos ⟨h_5, h_12, h_22⟩, hx, hxj, hxk, if_neg (by omega)]; first | (rw [if_pos (by omega)]; done) | (rw [if_neg (by omega), if_pos (by omega), h_107]; done) | (rw [if_neg (by omega), if_pos (by omega), h_107]; rfl) | (rw [if_neg (by omega), if_neg (by omega)]; done)
                      · rfl
                    · refine pw_aload_n hX rfl dX4_entryOf_101 (q := 102) rfl ?_
                      refine pw_iload_n hX rfl dX4_entryOf_102 (q := 103) rfl ?_
                      refine pw_iload_n hX rfl dX4_entryOf_103 (q := 104) rfl ?_
                      refine pw_cvI2 hX dX4_entryOf_104 (q := 107) rfl mi_X4_isDead ml_X4_120 rcM ⟨rfl, rfl, by decide, by decide⟩ rfl (Nat.le_of_ble_eq_true rfl) (c_X4_isDead (by first | assumption | omega) (by first | assumption | omega) (by first | assumption | omega)) ?_
                      refine pw_ifB_eq hX (tgt := 114) dX4_entryOf_107 (q := 110) rfl (by decide) (fun h_107 => ?_) (fun h_107 => ?_)
                      · refine pw_iconst hX (k := 0) rfl (by decide) dX4_entryOf_114 (q := 115) rfl ?_
                        refine pw_goto hX (tgt := 125) dX4_entryOf_115 (by decide) ?_
                        refine pw_ireturn hX dX4_entryOf_125 ⟨_, rfl, rfl⟩ ⟨congrArg (fun z => some (Value.int z)) ?_, ?_⟩
                        · rw [mEOf, if_pos ⟨h_5, h_12, h_22⟩, hx, hxj, hxk, if_neg (by omega)]; first | (rw [if_pos (by omega)]; done) | (rw [if_neg (by omega), if_pos (by omega), h_107]; done) | (rw [if_neg (by omega), if_pos (by omega), h_107]; rfl) | (rw [if_neg (by omega), if_neg (by omega)]; done)
                        · rfl
                      · refine pw_iconst hX (k := 1) rfl (by decide) dX4_entryOf_110 (q := 111) rfl ?_
                        refine pw_goto hX (tgt := 125) dX4_entryOf_111 (by decide) ?_
                        refine pw_ireturn hX dX4_entryOf_125 ⟨_, rfl, rfl⟩ ⟨congrArg (fun z => some (Value.int z)) ?_, ?_⟩
                        · rw [mEOf, if_pos ⟨h_5, h_12, h_22⟩, hx, hxj, hxk, if_neg (by omega)]; first | (rw [if_pos (by omega)]; done) | (rw [if_neg (by omega), if_pos (by omega), h_107]; done) | (rw [if_neg (by omega), if_pos (by omega), h_107]; rfl) | (rw [if_neg (by omega), if_neg (by omega)]; done)
                        · rfl
                  · refine pw_iload hX rfl dX4_entryOf_88 (q := 90) rfl ?_
                    refine pw_iconst hX (k := 1) rfl (by decide) dX4_entryOf_90 (q := 91) rfl ?_
                    refine pw_isubN hX (by first | assumption | omega) dX4_entryOf_91 (q := 92) rfl ?_
                    refine pw_goto hX (tgt := 125) dX4_entryOf_92 (by decide) ?_
                    refine pw_ireturn hX dX4_entryOf_125 ⟨_, rfl, rfl⟩ ⟨congrArg (fun z => some (Value.int z)) ?_, ?_⟩
                    · rw [mEOf, if_pos ⟨h_5, h_12, h_22⟩, hx, hxj, hxk, if_neg (by omega)]; first | (rw [if_pos (by omega)]; done) | (rw [if_neg (by omega), if_pos (by omega), h_107]; done) | (rw [if_neg (by omega), if_pos (by omega), h_107]; rfl) | (rw [if_neg (by omega), if_neg (by omega)]; done)
                    · rfl
                · refine pw_iload hX rfl dX4_entryOf_74 (q := 76) rfl ?_
                  refine pw_iload hX rfl dX4_entryOf_76 (q := 78) rfl ?_
                  refine pw_icmpN_eq hX (by first | omega | exact bS0 hB | exact bSw hB (by omega) (by omega) (by omega) | exact bSe hB (by omega) (by omega) | exact bS1 hB | exact bS2 hB) (by first | omega | exact bS0 hB | exact bSw hB (by omega) (by omega) (by omega) | exact bSe hB (by omega) (by omega) | exact bS1 hB | exact bS2 hB) (tgt := 84) dX4_entryOf_78 (q := 81) rfl (by decide) (fun h_78 => ?_) (fun h_78 => ?_)
                  · refine pw_iload_n hX rfl dX4_entryOf_84 (q := 85) rfl ?_
                    refine pw_ifN_ne hX (by first | omega | exact bS0 hB | exact bSw hB (by omega) (by omega) (by omega) | exact bSe hB (by omega) (by omega) | exact bS1 hB | exact bS2 hB) (tgt := 95) dX4_entryOf_85 (q := 88) rfl (by decide) (fun h_85 => ?_) (fun h_85 => ?_)
                    · refine pw_iload_n hX rfl dX4_entryOf_95 (q := 96) rfl ?_
                      refine pw_bipush hX (k := 7) (by decide) dX4_entryOf_96 (q := 98) rfl ?_
                      refine pw_icmpN_ne hX (by first | omega | exact bS0 hB | exact bSw hB (by omega) (by omega) (by omega) | exact bSe hB (by omega) (by omega) | exact bS1 hB | exact bS2 hB) (by first | omega | exact bS0 hB | exact bSw hB (by omega) (by omega) (by omega) | exact bSe hB (by omega) (by omega) | exact bS1 hB | exact bS2 hB) (tgt := 118) dX4_entryOf_98 (q := 101) rfl (by decide) (fun h_98 => ?_) (fun h_98 => ?_)
                      · refine pw_aload_n hX rfl dX4_entryOf_118 (q := 119) rfl ?_
                        refine pw_iload_n hX rfl dX4_entryOf_119 (q := 120) rfl ?_
                        refine pw_iload_n hX rfl dX4_entryOf_120 (q := 121) rfl ?_
                        refine pw_iload_n hX rfl dX4_entryOf_121 (q := 122) rfl ?_
                        refine pw_cvI3 hX dX4_entryOf_122 (q := 125) rfl mi_X4_en ml_X4_73 rcM ⟨rfl, rfl, by decide, by decide⟩ rfl (Nat.le_of_ble_eq_true rfl) (c_X4_en (by first | assumption | omega) (by first | assumption | omega) (by first | assumption | omega)) ?_
                        refine pw_ireturn hX dX4_entryOf_125 ⟨_, rfl, rfl⟩ ⟨congrArg (fun z => some (Value.int z)) ?_, ?_⟩
                        · rw [mEOf, if_pos ⟨h_5, h_12, h_22⟩, hx, hxj, hxk, if_neg (by omega)]; first | (rw [if_pos (by omega)]; done) | (rw [if_neg (by omega), if_pos (by omega), h_107]; done) | (rw [if_neg (by omega), if_pos (by omega), h_107]; rfl) | (rw [if_neg (by omega), if_neg (by omega)]; done)
                        · rfl
                      · refine pw_aload_n hX rfl dX4_entryOf_101 (q := 102) rfl ?_
                        refine pw_iload_n hX rfl dX4_entryOf_102 (q := 103) rfl ?_
                        refine pw_iload_n hX rfl dX4_entryOf_103 (q := 104) rfl ?_
                        refine pw_cvI2 hX dX4_entryOf_104 (q := 107) rfl mi_X4_isDead ml_X4_120 rcM ⟨rfl, rfl, by decide, by decide⟩ rfl (Nat.le_of_ble_eq_true rfl) (c_X4_isDead (by first | assumption | omega) (by first | assumption | omega) (by first | assumption | omega)) ?_
                        refine pw_ifB_eq hX (tgt := 114) dX4_entryOf_107 (q := 110) rfl (by decide) (fun h_107 => ?_) (fun h_107 => ?_)
                        · refine pw_iconst hX (k := 0) rfl (by decide) dX4_entryOf_114 (q := 115) rfl ?_
                          refine pw_goto hX (tgt := 125) dX4_entryOf_115 (by decide) ?_
                          refine pw_ireturn hX dX4_entryOf_125 ⟨_, rfl, rfl⟩ ⟨congrArg (fun z => some (Value.int z)) ?_, ?_⟩
                          · rw [mEOf, if_pos ⟨h_5, h_12, h_22⟩, hx, hxj, hxk, if_neg (by omega)]; first | (rw [if_pos (by omega)]; done) | (rw [if_neg (by omega), if_pos (by omega), h_107]; done) | (rw [if_neg (by omega), if_pos (by omega), h_107]; rfl) | (rw [if_neg (by omega), if_neg (by omega)]; done)
                          · rfl
                        · refine pw_iconst hX (k := 1) rfl (by decide) dX4_entryOf_110 (q := 111) rfl ?_
                          refine pw_goto hX (tgt := 125) dX4_entryOf_111 (by decide) ?_
                          refine pw_ireturn hX dX4_entryOf_125 ⟨_, rfl, rfl⟩ ⟨congrArg (fun z => some (Value.int z)) ?_, ?_⟩
                          · rw [mEOf, if_pos ⟨h_5, h_12, h_22⟩, hx, hxj, hxk, if_neg (by omega)]; first | (rw [if_pos (by omega)]; done) | (rw [if_neg (by omega), if_pos (by omega), h_107]; done) | (rw [if_neg (by omega), if_pos (by omega), h_107]; rfl) | (rw [if_neg (by omega), if_neg (by omega)]; done)
                          · rfl
                    · refine pw_iload hX rfl dX4_entryOf_88 (q := 90) rfl ?_
                      refine pw_iconst hX (k := 1) rfl (by decide) dX4_entryOf_90 (q := 91) rfl ?_
                      refine pw_isubN hX (by first | assumption | omega) dX4_entryOf_91 (q := 92) rfl ?_
                      refine pw_goto hX (tgt := 125) dX4_entryOf_92 (by decide) ?_
                      refine pw_ireturn hX dX4_entryOf_125 ⟨_, rfl, rfl⟩ ⟨congrArg (fun z => some (Value.int z)) ?_, ?_⟩
                      · rw [mEOf, if_pos ⟨h_5, h_12, h_22⟩, hx, hxj, hxk, if_neg (by omega)]; first | (rw [if_pos (by omega)]; done) | (rw [if_neg (by omega), if_pos (by omega), h_107]; done) | (rw [if_neg (by omega), if_pos (by omega), h_107]; rfl) | (rw [if_neg (by omega), if_neg (by omega)]; done)
                      · rfl
                  · refine pw_ldc hX cn_X4_80 dX4_entryOf_81 (q := 83) rfl ?_
                    refine pw_ireturn hX dX4_entryOf_83 ⟨_, rfl, rfl⟩ ⟨congrArg (fun z => some (Value.int z)) ?_, ?_⟩
                    · rw [mEOf, if_pos ⟨h_5, h_12, h_22⟩, hx, hxj, hxk, if_pos (by omega)]
                    · rfl
            · refine pw_iconst hX (k := 2) rfl (by decide) dX4_entryOf_57 (q := 58) rfl ?_
              refine pw_goto hX (tgt := 62) dX4_entryOf_58 (by decide) ?_
              have hne : mNeeds k = 2 := by unfold mNeeds; rw [if_neg (by omega), if_pos (by omega)]
              refine pw_istore hX (by decide) dX4_entryOf_62 (q := 64) rfl ?_
              refine pw_iload hX rfl dX4_entryOf_64 (q := 66) rfl ?_
              refine pw_ifN_eq hX (by first | omega | exact bS0 hB | exact bSw hB (by omega) (by omega) (by omega) | exact bSe hB (by omega) (by omega) | exact bS1 hB | exact bS2 hB) (tgt := 81) dX4_entryOf_66 (q := 69) rfl (by decide) (fun h_66 => ?_) (fun h_66 => ?_)
              · refine pw_ldc hX cn_X4_80 dX4_entryOf_81 (q := 83) rfl ?_
                refine pw_ireturn hX dX4_entryOf_83 ⟨_, rfl, rfl⟩ ⟨congrArg (fun z => some (Value.int z)) ?_, ?_⟩
                · rw [mEOf, if_pos ⟨h_5, h_12, h_22⟩, hx, hxj, hxk, if_pos (by omega)]
                · rfl
              · refine pw_iload hX rfl dX4_entryOf_69 (q := 71) rfl ?_
                refine pw_ifN_le hX (by first | omega | exact bS0 hB | exact bSw hB (by omega) (by omega) (by omega) | exact bSe hB (by omega) (by omega) | exact bS1 hB | exact bS2 hB) (tgt := 84) dX4_entryOf_71 (q := 74) rfl (by decide) (fun h_71 => ?_) (fun h_71 => ?_)
                · refine pw_iload_n hX rfl dX4_entryOf_84 (q := 85) rfl ?_
                  refine pw_ifN_ne hX (by first | omega | exact bS0 hB | exact bSw hB (by omega) (by omega) (by omega) | exact bSe hB (by omega) (by omega) | exact bS1 hB | exact bS2 hB) (tgt := 95) dX4_entryOf_85 (q := 88) rfl (by decide) (fun h_85 => ?_) (fun h_85 => ?_)
                  · refine pw_iload_n hX rfl dX4_entryOf_95 (q := 96) rfl ?_
                    refine pw_bipush hX (k := 7) (by decide) dX4_entryOf_96 (q := 98) rfl ?_
                    refine pw_icmpN_ne hX (by first | omega | exact bS0 hB | exact bSw hB (by omega) (by omega) (by omega) | exact bSe hB (by omega) (by omega) | exact bS1 hB | exact bS2 hB) (by first | omega | exact bS0 hB | exact bSw hB (by omega) (by omega) (by omega) | exact bSe hB (by omega) (by omega) | exact bS1 hB | exact bS2 hB) (tgt := 118) dX4_entryOf_98 (q := 101) rfl (by decide) (fun h_98 => ?_) (fun h_98 => ?_)
                    · refine pw_aload_n hX rfl dX4_entryOf_118 (q := 119) rfl ?_
                      refine pw_iload_n hX rfl dX4_entryOf_119 (q := 120) rfl ?_
                      refine pw_iload_n hX rfl dX4_entryOf_120 (q := 121) rfl ?_
                      refine pw_iload_n hX rfl dX4_entryOf_121 (q := 122) rfl ?_
                      refine pw_cvI3 hX dX4_entryOf_122 (q := 125) rfl mi_X4_en ml_X4_73 rcM ⟨rfl, rfl, by decide, by decide⟩ rfl (Nat.le_of_ble_eq_true rfl) (c_X4_en (by first | assumption | omega) (by first | assumption | omega) (by first | assumption | omega)) ?_
                      refine pw_ireturn hX dX4_entryOf_125 ⟨_, rfl, rfl⟩ ⟨congrArg (fun z => some (Value.int z)) ?_, ?_⟩
                      · rw [mEOf, if_pos ⟨h_5, h_12, h_22⟩, hx, hxj, hxk, if_neg (by omega)]; first | (rw [if_pos (by omega)]; done) | (rw [if_neg (by omega), if_pos (by omega), h_107]; done) | (rw [if_neg (by omega), if_pos (by omega), h_107]; rfl) | (rw [if_neg (by omega), if_neg (by omega)]; done)
                      · rfl
                    · refine pw_aload_n hX rfl dX4_entryOf_101 (q := 102) rfl ?_
                      refine pw_iload_n hX rfl dX4_entryOf_102 (q := 103) rfl ?_
                      refine pw_iload_n hX rfl dX4_entryOf_103 (q := 104) rfl ?_
                      refine pw_cvI2 hX dX4_entryOf_104 (q := 107) rfl mi_X4_isDead ml_X4_120 rcM ⟨rfl, rfl, by decide, by decide⟩ rfl (Nat.le_of_ble_eq_true rfl) (c_X4_isDead (by first | assumption | omega) (by first | assumption | omega) (by first | assumption | omega)) ?_
                      refine pw_ifB_eq hX (tgt := 114) dX4_entryOf_107 (q := 110) rfl (by decide) (fun h_107 => ?_) (fun h_107 => ?_)
                      · refine pw_iconst hX (k := 0) rfl (by decide) dX4_entryOf_114 (q := 115) rfl ?_
                        refine pw_goto hX (tgt := 125) dX4_entryOf_115 (by decide) ?_
                        refine pw_ireturn hX dX4_entryOf_125 ⟨_, rfl, rfl⟩ ⟨congrArg (fun z => some (Value.int z)) ?_, ?_⟩
                        · rw [mEOf, if_pos ⟨h_5, h_12, h_22⟩, hx, hxj, hxk, if_neg (by omega)]; first | (rw [if_pos (by omega)]; done) | (rw [if_neg (by omega), if_pos (by omega), h_107]; done) | (rw [if_neg (by omega), if_pos (by omega), h_107]; rfl) | (rw [if_neg (by omega), if_neg (by omega)]; done)
                        · rfl
                      · refine pw_iconst hX (k := 1) rfl (by decide) dX4_entryOf_110 (q := 111) rfl ?_
                        refine pw_goto hX (tgt := 125) dX4_entryOf_111 (by decide) ?_
                        refine pw_ireturn hX dX4_entryOf_125 ⟨_, rfl, rfl⟩ ⟨congrArg (fun z => some (Value.int z)) ?_, ?_⟩
                        · rw [mEOf, if_pos ⟨h_5, h_12, h_22⟩, hx, hxj, hxk, if_neg (by omega)]; first | (rw [if_pos (by omega)]; done) | (rw [if_neg (by omega), if_pos (by omega), h_107]; done) | (rw [if_neg (by omega), if_pos (by omega), h_107]; rfl) | (rw [if_neg (by omega), if_neg (by omega)]; done)
                        · rfl
                  · refine pw_iload hX rfl dX4_entryOf_88 (q := 90) rfl ?_
                    refine pw_iconst hX (k := 1) rfl (by decide) dX4_entryOf_90 (q := 91) rfl ?_
                    refine pw_isubN hX (by first | assumption | omega) dX4_entryOf_91 (q := 92) rfl ?_
                    refine pw_goto hX (tgt := 125) dX4_entryOf_92 (by decide) ?_
                    refine pw_ireturn hX dX4_entryOf_125 ⟨_, rfl, rfl⟩ ⟨congrArg (fun z => some (Value.int z)) ?_, ?_⟩
                    · rw [mEOf, if_pos ⟨h_5, h_12, h_22⟩, hx, hxj, hxk, if_neg (by omega)]; first | (rw [if_pos (by omega)]; done) | (rw [if_neg (by omega), if_pos (by omega), h_107]; done) | (rw [if_neg (by omega), if_pos (by omega), h_107]; rfl) | (rw [if_neg (by omega), if_neg (by omega)]; done)
                    · rfl
                · refine pw_iload hX rfl dX4_entryOf_74 (q := 76) rfl ?_
                  refine pw_iload hX rfl dX4_entryOf_76 (q := 78) rfl ?_
                  refine pw_icmpN_eq hX (by first | omega | exact bS0 hB | exact bSw hB (by omega) (by omega) (by omega) | exact bSe hB (by omega) (by omega) | exact bS1 hB | exact bS2 hB) (by first | omega | exact bS0 hB | exact bSw hB (by omega) (by omega) (by omega) | exact bSe hB (by omega) (by omega) | exact bS1 hB | exact bS2 hB) (tgt := 84) dX4_entryOf_78 (q := 81) rfl (by decide) (fun h_78 => ?_) (fun h_78 => ?_)
                  · refine pw_iload_n hX rfl dX4_entryOf_84 (q := 85) rfl ?_
                    refine pw_ifN_ne hX (by first | omega | exact bS0 hB | exact bSw hB (by omega) (by omega) (by omega) | exact bSe hB (by omega) (by omega) | exact bS1 hB | exact bS2 hB) (tgt := 95) dX4_entryOf_85 (q := 88) rfl (by decide) (fun h_85 => ?_) (fun h_85 => ?_)
                    · refine pw_iload_n hX rfl dX4_entryOf_95 (q := 96) rfl ?_
                      refine pw_bipush hX (k := 7) (by decide) dX4_entryOf_96 (q := 98) rfl ?_
                      refine pw_icmpN_ne hX (by first | omega | exact bS0 hB | exact bSw hB (by omega) (by omega) (by omega) | exact bSe hB (by omega) (by omega) | exact bS1 hB | exact bS2 hB) (by first | omega | exact bS0 hB | exact bSw hB (by omega) (by omega) (by omega) | exact bSe hB (by omega) (by omega) | exact bS1 hB | exact bS2 hB) (tgt := 118) dX4_entryOf_98 (q := 101) rfl (by decide) (fun h_98 => ?_) (fun h_98 => ?_)
                      · refine pw_aload_n hX rfl dX4_entryOf_118 (q := 119) rfl ?_
                        refine pw_iload_n hX rfl dX4_entryOf_119 (q := 120) rfl ?_
                        refine pw_iload_n hX rfl dX4_entryOf_120 (q := 121) rfl ?_
                        refine pw_iload_n hX rfl dX4_entryOf_121 (q := 122) rfl ?_
                        refine pw_cvI3 hX dX4_entryOf_122 (q := 125) rfl mi_X4_en ml_X4_73 rcM ⟨rfl, rfl, by decide, by decide⟩ rfl (Nat.le_of_ble_eq_true rfl) (c_X4_en (by first | assumption | omega) (by first | assumption | omega) (by first | assumption | omega)) ?_
                        refine pw_ireturn hX dX4_entryOf_125 ⟨_, rfl, rfl⟩ ⟨congrArg (fun z => some (Value.int z)) ?_, ?_⟩
                        · rw [mEOf, if_pos ⟨h_5, h_12, h_22⟩, hx, hxj, hxk, if_neg (by omega)]; first | (rw [if_pos (by omega)]; done) | (rw [if_neg (by omega), if_pos (by omega), h_107]; done) | (rw [if_neg (by omega), if_pos (by omega), h_107]; rfl) | (rw [if_neg (by omega), if_neg (by omega)]; done)
                        · rfl
                      · refine pw_aload_n hX rfl dX4_entryOf_101 (q := 102) rfl ?_
                        refine pw_iload_n hX rfl dX4_entryOf_102 (q := 103) rfl ?_
                        refine pw_iload_n hX rfl dX4_entryOf_103 (q := 104) rfl ?_
                        refine pw_cvI2 hX dX4_entryOf_104 (q := 107) rfl mi_X4_isDead ml_X4_120 rcM ⟨rfl, rfl, by decide, by decide⟩ rfl (Nat.le_of_ble_eq_true rfl) (c_X4_isDead (by first | assumption | omega) (by first | assumption | omega) (by first | assumption | omega)) ?_
                        refine pw_ifB_eq hX (tgt := 114) dX4_entryOf_107 (q := 110) rfl (by decide) (fun h_107 => ?_) (fun h_107 => ?_)
                        · refine pw_iconst hX (k := 0) rfl (by decide) dX4_entryOf_114 (q := 115) rfl ?_
                          refine pw_goto hX (tgt := 125) dX4_entryOf_115 (by decide) ?_
                          refine pw_ireturn hX dX4_entryOf_125 ⟨_, rfl, rfl⟩ ⟨congrArg (fun z => some (Value.int z)) ?_, ?_⟩
                          · rw [mEOf, if_pos ⟨h_5, h_12, h_22⟩, hx, hxj, hxk, if_neg (by omega)]; first | (rw [if_pos (by omega)]; done) | (rw [if_neg (by omega), if_pos (by omega), h_107]; done) | (rw [if_neg (by omega), if_pos (by omega), h_107]; rfl) | (rw [if_neg (by omega), if_neg (by omega)]; done)
                          · rfl
                        · refine pw_iconst hX (k := 1) rfl (by decide) dX4_entryOf_110 (q := 111) rfl ?_
                          refine pw_goto hX (tgt := 125) dX4_entryOf_111 (by decide) ?_
                          refine pw_ireturn hX dX4_entryOf_125 ⟨_, rfl, rfl⟩ ⟨congrArg (fun z => some (Value.int z)) ?_, ?_⟩
                          · rw [mEOf, if_pos ⟨h_5, h_12, h_22⟩, hx, hxj, hxk, if_neg (by omega)]; first | (rw [if_pos (by omega)]; done) | (rw [if_neg (by omega), if_pos (by omega), h_107]; done) | (rw [if_neg (by omega), if_pos (by omega), h_107]; rfl) | (rw [if_neg (by omega), if_neg (by omega)]; done)
                          · rfl
                    · refine pw_iload hX rfl dX4_entryOf_88 (q := 90) rfl ?_
                      refine pw_iconst hX (k := 1) rfl (by decide) dX4_entryOf_90 (q := 91) rfl ?_
                      refine pw_isubN hX (by first | assumption | omega) dX4_entryOf_91 (q := 92) rfl ?_
                      refine pw_goto hX (tgt := 125) dX4_entryOf_92 (by decide) ?_
                      refine pw_ireturn hX dX4_entryOf_125 ⟨_, rfl, rfl⟩ ⟨congrArg (fun z => some (Value.int z)) ?_, ?_⟩
                      · rw [mEOf, if_pos ⟨h_5, h_12, h_22⟩, hx, hxj, hxk, if_neg (by omega)]; first | (rw [if_pos (by omega)]; done) | (rw [if_neg (by omega), if_pos (by omega), h_107]; done) | (rw [if_neg (by omega), if_pos (by omega), h_107]; rfl) | (rw [if_neg (by omega), if_neg (by omega)]; done)
                      · rfl
                  · refine pw_ldc hX cn_X4_80 dX4_entryOf_81 (q := 83) rfl ?_
                    refine pw_ireturn hX dX4_entryOf_83 ⟨_, rfl, rfl⟩ ⟨congrArg (fun z => some (Value.int z)) ?_, ?_⟩
                    · rw [mEOf, if_pos ⟨h_5, h_12, h_22⟩, hx, hxj, hxk, if_pos (by omega)]
                    · rfl
        · refine pw_iconst hX (k := 0) rfl (by decide) dX4_entryOf_42 (q := 43) rfl ?_
          refine pw_goto hX (tgt := 62) dX4_entryOf_43 (by decide) ?_
          have hne : mNeeds k = 0 := by unfold mNeeds; rw [if_pos (by omega)]
          refine pw_istore hX (by decide) dX4_entryOf_62 (q := 64) rfl ?_
          refine pw_iload hX rfl dX4_entryOf_64 (q := 66) rfl ?_
          refine pw_ifN_eq hX (by first | omega | exact bS0 hB | exact bSw hB (by omega) (by omega) (by omega) | exact bSe hB (by omega) (by omega) | exact bS1 hB | exact bS2 hB) (tgt := 81) dX4_entryOf_66 (q := 69) rfl (by decide) (fun h_66 => ?_) (fun h_66 => ?_)
          · refine pw_ldc hX cn_X4_80 dX4_entryOf_81 (q := 83) rfl ?_
            refine pw_ireturn hX dX4_entryOf_83 ⟨_, rfl, rfl⟩ ⟨congrArg (fun z => some (Value.int z)) ?_, ?_⟩
            · rw [mEOf, if_pos ⟨h_5, h_12, h_22⟩, hx, hxj, hxk, if_pos (by omega)]
            · rfl
          · refine pw_iload hX rfl dX4_entryOf_69 (q := 71) rfl ?_
            refine pw_ifN_le hX (by first | omega | exact bS0 hB | exact bSw hB (by omega) (by omega) (by omega) | exact bSe hB (by omega) (by omega) | exact bS1 hB | exact bS2 hB) (tgt := 84) dX4_entryOf_71 (q := 74) rfl (by decide) (fun h_71 => ?_) (fun h_71 => ?_)
            · refine pw_iload_n hX rfl dX4_entryOf_84 (q := 85) rfl ?_
              refine pw_ifN_ne hX (by first | omega | exact bS0 hB | exact bSw hB (by omega) (by omega) (by omega) | exact bSe hB (by omega) (by omega) | exact bS1 hB | exact bS2 hB) (tgt := 95) dX4_entryOf_85 (q := 88) rfl (by decide) (fun h_85 => ?_) (fun h_85 => ?_)
              · refine pw_iload_n hX rfl dX4_entryOf_95 (q := 96) rfl ?_
                refine pw_bipush hX (k := 7) (by decide) dX4_entryOf_96 (q := 98) rfl ?_
                refine pw_icmpN_ne hX (by first | omega | exact bS0 hB | exact bSw hB (by omega) (by omega) (by omega) | exact bSe hB (by omega) (by omega) | exact bS1 hB | exact bS2 hB) (by first | omega | exact bS0 hB | exact bSw hB (by omega) (by omega) (by omega) | exact bSe hB (by omega) (by omega) | exact bS1 hB | exact bS2 hB) (tgt := 118) dX4_entryOf_98 (q := 101) rfl (by decide) (fun h_98 => ?_) (fun h_98 => ?_)
                · refine pw_aload_n hX rfl dX4_entryOf_118 (q := 119) rfl ?_
                  refine pw_iload_n hX rfl dX4_entryOf_119 (q := 120) rfl ?_
                  refine pw_iload_n hX rfl dX4_entryOf_120 (q := 121) rfl ?_
                  refine pw_iload_n hX rfl dX4_entryOf_121 (q := 122) rfl ?_
                  refine pw_cvI3 hX dX4_entryOf_122 (q := 125) rfl mi_X4_en ml_X4_73 rcM ⟨rfl, rfl, by decide, by decide⟩ rfl (Nat.le_of_ble_eq_true rfl) (c_X4_en (by first | assumption | omega) (by first | assumption | omega) (by first | assumption | omega)) ?_
                  refine pw_ireturn hX dX4_entryOf_125 ⟨_, rfl, rfl⟩ ⟨congrArg (fun z => some (Value.int z)) ?_, ?_⟩
                  · rw [mEOf, if_pos ⟨h_5, h_12, h_22⟩, hx, hxj, hxk, if_neg (by omega)]; first | (rw [if_pos (by omega)]; done) | (rw [if_neg (by omega), if_pos (by omega), h_107]; done) | (rw [if_neg (by omega), if_pos (by omega), h_107]; rfl) | (rw [if_neg (by omega), if_neg (by omega)]; done)
                  · rfl
                · refine pw_aload_n hX rfl dX4_entryOf_101 (q := 102) rfl ?_
                  refine pw_iload_n hX rfl dX4_entryOf_102 (q := 103) rfl ?_
                  refine pw_iload_n hX rfl dX4_entryOf_103 (q := 104) rfl ?_
                  refine pw_cvI2 hX dX4_entryOf_104 (q := 107) rfl mi_X4_isDead ml_X4_120 rcM ⟨rfl, rfl, by decide, by decide⟩ rfl (Nat.le_of_ble_eq_true rfl) (c_X4_isDead (by first | assumption | omega) (by first | assumption | omega) (by first | assumption | omega)) ?_
                  refine pw_ifB_eq hX (tgt := 114) dX4_entryOf_107 (q := 110) rfl (by decide) (fun h_107 => ?_) (fun h_107 => ?_)
                  · refine pw_iconst hX (k := 0) rfl (by decide) dX4_entryOf_114 (q := 115) rfl ?_
                    refine pw_goto hX (tgt := 125) dX4_entryOf_115 (by decide) ?_
                    refine pw_ireturn hX dX4_entryOf_125 ⟨_, rfl, rfl⟩ ⟨congrArg (fun z => some (Value.int z)) ?_, ?_⟩
                    · rw [mEOf, if_pos ⟨h_5, h_12, h_22⟩, hx, hxj, hxk, if_neg (by omega)]; first | (rw [if_pos (by omega)]; done) | (rw [if_neg (by omega), if_pos (by omega), h_107]; done) | (rw [if_neg (by omega), if_pos (by omega), h_107]; rfl) | (rw [if_neg (by omega), if_neg (by omega)]; done)
                    · rfl
                  · refine pw_iconst hX (k := 1) rfl (by decide) dX4_entryOf_110 (q := 111) rfl ?_
                    refine pw_goto hX (tgt := 125) dX4_entryOf_111 (by decide) ?_
                    refine pw_ireturn hX dX4_entryOf_125 ⟨_, rfl, rfl⟩ ⟨congrArg (fun z => some (Value.int z)) ?_, ?_⟩
                    · rw [mEOf, if_pos ⟨h_5, h_12, h_22⟩, hx, hxj, hxk, if_neg (by omega)]; first | (rw [if_pos (by omega)]; done) | (rw [if_neg (by omega), if_pos (by omega), h_107]; done) | (rw [if_neg (by omega), if_pos (by omega), h_107]; rfl) | (rw [if_neg (by omega), if_neg (by omega)]; done)
                    · rfl
              · refine pw_iload hX rfl dX4_entryOf_88 (q := 90) rfl ?_
                refine pw_iconst hX (k := 1) rfl (by decide) dX4_entryOf_90 (q := 91) rfl ?_
                refine pw_isubN hX (by first | assumption | omega) dX4_entryOf_91 (q := 92) rfl ?_
                refine pw_goto hX (tgt := 125) dX4_entryOf_92 (by decide) ?_
                refine pw_ireturn hX dX4_entryOf_125 ⟨_, rfl, rfl⟩ ⟨congrArg (fun z => some (Value.int z)) ?_, ?_⟩
                · rw [mEOf, if_pos ⟨h_5, h_12, h_22⟩, hx, hxj, hxk, if_neg (by omega)]; first | (rw [if_pos (by omega)]; done) | (rw [if_neg (by omega), if_pos (by omega), h_107]; done) | (rw [if_neg (by omega), if_pos (by omega), h_107]; rfl) | (rw [if_neg (by omega), if_neg (by omega)]; done)
                · rfl
            · refine pw_iload hX rfl dX4_entryOf_74 (q := 76) rfl ?_
              refine pw_iload hX rfl dX4_entryOf_76 (q := 78) rfl ?_
              refine pw_icmpN_eq hX (by first | omega | exact bS0 hB | exact bSw hB (by omega) (by omega) (by omega) | exact bSe hB (by omega) (by omega) | exact bS1 hB | exact bS2 hB) (by first | omega | exact bS0 hB | exact bSw hB (by omega) (by omega) (by omega) | exact bSe hB (by omega) (by omega) | exact bS1 hB | exact bS2 hB) (tgt := 84) dX4_entryOf_78 (q := 81) rfl (by decide) (fun h_78 => ?_) (fun h_78 => ?_)
              · refine pw_iload_n hX rfl dX4_entryOf_84 (q := 85) rfl ?_
                refine pw_ifN_ne hX (by first | omega | exact bS0 hB | exact bSw hB (by omega) (by omega) (by omega) | exact bSe hB (by omega) (by omega) | exact bS1 hB | exact bS2 hB) (tgt := 95) dX4_entryOf_85 (q := 88) rfl (by decide) (fun h_85 => ?_) (fun h_85 => ?_)
                · refine pw_iload_n hX rfl dX4_entryOf_95 (q := 96) rfl ?_
                  refine pw_bipush hX (k := 7) (by decide) dX4_entryOf_96 (q := 98) rfl ?_
                  refine pw_icmpN_ne hX (by first | omega | exact bS0 hB | exact bSw hB (by omega) (by omega) (by omega) | exact bSe hB (by omega) (by omega) | exact bS1 hB | exact bS2 hB) (by first | omega | exact bS0 hB | exact bSw hB (by omega) (by omega) (by omega) | exact bSe hB (by omega) (by omega) | exact bS1 hB | exact bS2 hB) (tgt := 118) dX4_entryOf_98 (q := 101) rfl (by decide) (fun h_98 => ?_) (fun h_98 => ?_)
                  · refine pw_aload_n hX rfl dX4_entryOf_118 (q := 119) rfl ?_
                    refine pw_iload_n hX rfl dX4_entryOf_119 (q := 120) rfl ?_
                    refine pw_iload_n hX rfl dX4_entryOf_120 (q := 121) rfl ?_
                    refine pw_iload_n hX rfl dX4_entryOf_121 (q := 122) rfl ?_
                    refine pw_cvI3 hX dX4_entryOf_122 (q := 125) rfl mi_X4_en ml_X4_73 rcM ⟨rfl, rfl, by decide, by decide⟩ rfl (Nat.le_of_ble_eq_true rfl) (c_X4_en (by first | assumption | omega) (by first | assumption | omega) (by first | assumption | omega)) ?_
                    refine pw_ireturn hX dX4_entryOf_125 ⟨_, rfl, rfl⟩ ⟨congrArg (fun z => some (Value.int z)) ?_, ?_⟩
                    · rw [mEOf, if_pos ⟨h_5, h_12, h_22⟩, hx, hxj, hxk, if_neg (by omega)]; first | (rw [if_pos (by omega)]; done) | (rw [if_neg (by omega), if_pos (by omega), h_107]; done) | (rw [if_neg (by omega), if_pos (by omega), h_107]; rfl) | (rw [if_neg (by omega), if_neg (by omega)]; done)
                    · rfl
                  · refine pw_aload_n hX rfl dX4_entryOf_101 (q := 102) rfl ?_
                    refine pw_iload_n hX rfl dX4_entryOf_102 (q := 103) rfl ?_
                    refine pw_iload_n hX rfl dX4_entryOf_103 (q := 104) rfl ?_
                    refine pw_cvI2 hX dX4_entryOf_104 (q := 107) rfl mi_X4_isDead ml_X4_120 rcM ⟨rfl, rfl, by decide, by decide⟩ rfl (Nat.le_of_ble_eq_true rfl) (c_X4_isDead (by first | assumption | omega) (by first | assumption | omega) (by first | assumption | omega)) ?_
                    refine pw_ifB_eq hX (tgt := 114) dX4_entryOf_107 (q := 110) rfl (by decide) (fun h_107 => ?_) (fun h_107 => ?_)
                    · refine pw_iconst hX (k := 0) rfl (by decide) dX4_entryOf_114 (q := 115) rfl ?_
                      refine pw_goto hX (tgt := 125) dX4_entryOf_115 (by decide) ?_
                      refine pw_ireturn hX dX4_entryOf_125 ⟨_, rfl, rfl⟩ ⟨congrArg (fun z => some (Value.int z)) ?_, ?_⟩
                      · rw [mEOf, if_pos ⟨h_5, h_12, h_22⟩, hx, hxj, hxk, if_neg (by omega)]; first | (rw [if_pos (by omega)]; done) | (rw [if_neg (by omega), if_pos (by omega), h_107]; done) | (rw [if_neg (by omega), if_pos (by omega), h_107]; rfl) | (rw [if_neg (by omega), if_neg (by omega)]; done)
                      · rfl
                    · refine pw_iconst hX (k := 1) rfl (by decide) dX4_entryOf_110 (q := 111) rfl ?_
                      refine pw_goto hX (tgt := 125) dX4_entryOf_111 (by decide) ?_
                      refine pw_ireturn hX dX4_entryOf_125 ⟨_, rfl, rfl⟩ ⟨congrArg (fun z => some (Value.int z)) ?_, ?_⟩
                      · rw [mEOf, if_pos ⟨h_5, h_12, h_22⟩, hx, hxj, hxk, if_neg (by omega)]; first | (rw [if_pos (by omega)]; done) | (rw [if_neg (by omega), if_pos (by omega), h_107]; done) | (rw [if_neg (by omega), if_pos (by omega), h_107]; rfl) | (rw [if_neg (by omega), if_neg (by omega)]; done)
                      · rfl
                · refine pw_iload hX rfl dX4_entryOf_88 (q := 90) rfl ?_
                  refine pw_iconst hX (k := 1) rfl (by decide) dX4_entryOf_90 (q := 91) rfl ?_
                  refine pw_isubN hX (by first | assumption | omega) dX4_entryOf_91 (q := 92) rfl ?_
                  refine pw_goto hX (tgt := 125) dX4_entryOf_92 (by decide) ?_
                  refine pw_ireturn hX dX4_entryOf_125 ⟨_, rfl, rfl⟩ ⟨congrArg (fun z => some (Value.int z)) ?_, ?_⟩
                  · rw [mEOf, if_pos ⟨h_5, h_12, h_22⟩, hx, hxj, hxk, if_neg (by omega)]; first | (rw [if_pos (by omega)]; done) | (rw [if_neg (by omega), if_pos (by omega), h_107]; done) | (rw [if_neg (by omega), if_pos (by omega), h_107]; rfl) | (rw [if_neg (by omega), if_neg (by omega)]; done)
                  · rfl
              · refine pw_ldc hX cn_X4_80 dX4_entryOf_81 (q := 83) rfl ?_
                refine pw_ireturn hX dX4_entryOf_83 ⟨_, rfl, rfl⟩ ⟨congrArg (fun z => some (Value.int z)) ?_, ?_⟩
                · rw [mEOf, if_pos ⟨h_5, h_12, h_22⟩, hx, hxj, hxk, if_pos (by omega)]
                · rfl
      · refine pw_ldc hX cn_X4_40 dX4_entryOf_25 (q := 27) rfl ?_
        refine pw_ireturn hX dX4_entryOf_27 ⟨_, rfl, rfl⟩ ⟨congrArg (fun z => some (Value.int z)) ?_, ?_⟩
        · rw [mEOf, if_neg (by rintro ⟨a1, a2, a3⟩; simp_all)]
        · rfl
abbrev rm_X4_drops : Room := { frames := 2, cells := 0, slots := 0, locals := 44 }
set_option maxHeartbeats 4000000 in
set_option maxRecDepth 20000 in
theorem c_X4_drops {l : Launch} {g : Geo} {w : WD} {V : Nat → Nat → Nat} {S : Nat → Nat} {v t a : Nat} (hv : v < 7) (ht : t < 12) (ha : a < 2 ^ 31) (hB : bS S) (hW : bW S) : CtI l g yX4_drops cX4_drops 6 (some .int) rm_X4_drops [.ref (g_ad g 9 0), .int (nI v), .int (nI t), .int (nI a)] (mW w V S) (nI (mDr S v t a)) (mW w V (mDrop S v t a)) := by
  refine ct_of mi_X4_drops.2.2.2.2.2 ⟨rfl, rfl⟩ (List.forall_mem_cons.mpr ⟨rfl, List.forall_mem_cons.mpr ⟨rfl, List.forall_mem_cons.mpr ⟨rfl, List.forall_mem_cons.mpr ⟨rfl, fun _ h => absurd h List.not_mem_nil⟩⟩⟩⟩) (Nat.le_of_ble_eq_true rfl) (fun P hX => ?_)
  replace hX : Gd l g RX4 cX4_drops rm_X4_drops 6 (some .int) _ _ P := hX
  show P (mW w V S) 0 [some (.ref (g_ad g 9 0)), some (.int (nI v)), some (.int (nI t)), some (.int (nI a)), none, none] []
  have h7 := hB.2.2.1
  have hw0 := hW v t hv ht
  have h1S := hB.2.2.2.1
  have h2S := hB.2.2.2.2
  refine pw_aload_n hX rfl dX4_drops_0 (q := 1) rfl ?_
  refine pw_iload_n hX rfl dX4_drops_1 (q := 2) rfl ?_
  refine pw_iload_n hX rfl dX4_drops_2 (q := 3) rfl ?_
  refine pw_bipush hX (k := 6) (by decide) dX4_drops_3 (q := 5) rfl ?_
  refine pw_cvI3 hX dX4_drops_5 (q := 8) rfl mi_X4_en ml_X4_73 rcM ⟨rfl, rfl, by decide, by decide⟩ rfl (Nat.le_of_ble_eq_true rfl) (c_X4_en (by first | assumption | omega) (by first | assumption | omega) (by first | assumption | omega)) ?_
  refine pw_iload_n hX rfl dX4_drops_8 (q := 9) rfl ?_
  refine pw_iandN hX dX4_drops_9 (q := 10) rfl ?_
  refine pw_iload_n hX rfl dX4_drops_10 (q := 11) rfl ?_
  refine pw_icmpN_eq hX (by first | omega | exact Nat.lt_of_le_of_lt Nat.and_le_right ha | exact bSw hB (by omega) (by omega) (by omega) | exact bSe hB (by omega) (by omega) | exact bS2 hB) (by first | omega | exact Nat.lt_of_le_of_lt Nat.and_le_right ha | exact bSw hB (by omega) (by omega) (by omega) | exact bSe hB (by omega) (by omega) | exact bS2 hB) (tgt := 37) dX4_drops_11 (q := 14) rfl (by decide) (fun h_11 => ?_) (fun h_11 => ?_)
  · refine pw_iconst hX (k := 1) rfl (by decide) dX4_drops_37 (q := 38) rfl ?_
    refine pw_goto hX (tgt := 42) dX4_drops_38 (by decide) ?_
    have ho4 : mOver S v t a = true := decide_eq_true (by first | (left; exact h_11) | (right; omega))
    refine pw_istore hX (by decide) dX4_drops_42 (q := 44) rfl ?_
    refine pw_aload_n hX rfl dX4_drops_44 (q := 45) rfl ?_
    refine pw_iload_n hX rfl dX4_drops_45 (q := 46) rfl ?_
    refine pw_cvI1 hX dX4_drops_46 (q := 49) rfl mi_X4_isGone ml_X4_70 rcM ⟨rfl, rfl, by decide, by decide⟩ rfl (Nat.le_of_ble_eq_true rfl) (c_X4_isGone (by first | assumption | omega) (by first | assumption | omega)) ?_
    refine pw_ifB_ne hX (tgt := 68) dX4_drops_49 (q := 52) rfl (by decide) (fun h_49 => ?_) (fun h_49 => ?_)
    · have h_49 := of_decide_eq_true h_49
      refine pw_iconst hX (k := 0) rfl (by decide) dX4_drops_68 (q := 69) rfl ?_
      refine pw_ireturn hX dX4_drops_69 ⟨_, rfl, rfl⟩ ⟨congrArg (fun z => some (Value.int z)) ?_, ?_⟩
      · rw [mDr, if_neg (fun z => by have z2 := of_decide_eq_true z; simp_all)]
      · rw [mDrop, if_neg (fun z => by have z2 := of_decide_eq_true z; simp_all)]
    · have h_49 := of_decide_eq_false h_49
      refine pw_aload_n hX rfl dX4_drops_52 (q := 53) rfl ?_
      refine pw_iload_n hX rfl dX4_drops_53 (q := 54) rfl ?_
      refine pw_iload_n hX rfl dX4_drops_54 (q := 55) rfl ?_
      refine pw_iconst hX (k := 0) rfl (by decide) dX4_drops_55 (q := 56) rfl ?_
      refine pw_cvI3 hX dX4_drops_56 (q := 59) rfl mi_X4_en ml_X4_73 rcM ⟨rfl, rfl, by decide, by decide⟩ rfl (Nat.le_of_ble_eq_true rfl) (c_X4_en (by first | assumption | omega) (by first | assumption | omega) (by first | assumption | omega)) ?_
      refine pw_iconst hX (k := 2) rfl (by decide) dX4_drops_59 (q := 60) rfl ?_
      refine pw_icmpN_ne hX (by first | omega | exact Nat.lt_of_le_of_lt Nat.and_le_right ha | exact bSw hB (by omega) (by omega) (by omega) | exact bSe hB (by omega) (by omega) | exact bS2 hB) (by first | omega | exact Nat.lt_of_le_of_lt Nat.and_le_right ha | exact bSw hB (by omega) (by omega) (by omega) | exact bSe hB (by omega) (by omega) | exact bS2 hB) (tgt := 68) dX4_drops_60 (q := 63) rfl (by decide) (fun h_60 => ?_) (fun h_60 => ?_)
      · refine pw_iconst hX (k := 0) rfl (by decide) dX4_drops_68 (q := 69) rfl ?_
        refine pw_ireturn hX dX4_drops_69 ⟨_, rfl, rfl⟩ ⟨congrArg (fun z => some (Value.int z)) ?_, ?_⟩
        · rw [mDr, if_neg (fun z => by have z2 := of_decide_eq_true z; simp_all)]
        · rw [mDrop, if_neg (fun z => by have z2 := of_decide_eq_true z; simp_all)]
      · refine pw_iload hX rfl dX4_drops_63 (q := 65) rfl ?_
        refine pw_ifN_ne hX (by first | omega | exact Nat.lt_of_le_of_lt Nat.and_le_right ha | exact bSw hB (by omega) (by omega) (by omega) | exact bSe hB (by omega) (by omega) | exact bS2 hB) (tgt := 70) dX4_drops_65 (q := 68) rfl (by decide) (fun h_65 => ?_) (fun h_65 => ?_)
        · refine pw_bipush hX (k := 57) (by decide) dX4_drops_70 (q := 72) rfl ?_
          refine pw_bipush hX (k := 24) (by decide) dX4_drops_72 (q := 74) rfl ?_
          refine pw_iload_n hX rfl dX4_drops_74 (q := 75) rfl ?_
          refine pw_imulN hX dX4_drops_75 (q := 76) rfl ?_
          refine pw_iaddN hX dX4_drops_76 (q := 77) rfl ?_
          refine pw_iconst hX (k := 2) rfl (by decide) dX4_drops_77 (q := 78) rfl ?_
          refine pw_iload_n hX rfl dX4_drops_78 (q := 79) rfl ?_
          refine pw_imulN hX dX4_drops_79 (q := 80) rfl ?_
          refine pw_iaddN hX dX4_drops_80 (q := 81) rfl ?_
          refine pw_istore hX (by decide) dX4_drops_81 (q := 83) rfl ?_
          refine pw_aload_n hX rfl dX4_drops_83 (q := 84) rfl ?_
          refine pw_iload_n hX rfl dX4_drops_84 (q := 85) rfl ?_
          refine pw_iload_n hX rfl dX4_drops_85 (q := 86) rfl ?_
          refine pw_iconst hX (k := 1) rfl (by decide) dX4_drops_86 (q := 87) rfl ?_
          refine pw_cvI3 hX dX4_drops_87 (q := 90) rfl mi_X4_en ml_X4_73 rcM ⟨rfl, rfl, by decide, by decide⟩ rfl (Nat.le_of_ble_eq_true rfl) (c_X4_en (by first | assumption | omega) (by first | assumption | omega) (by first | assumption | omega)) ?_
          refine pw_aload_n hX rfl dX4_drops_90 (q := 91) rfl ?_
          refine pw_iload_n hX rfl dX4_drops_91 (q := 92) rfl ?_
          refine pw_iload_n hX rfl dX4_drops_92 (q := 93) rfl ?_
          refine pw_iconst hX (k := 2) rfl (by decide) dX4_drops_93 (q := 94) rfl ?_
          refine pw_cvI3 hX dX4_drops_94 (q := 97) rfl mi_X4_en ml_X4_73 rcM ⟨rfl, rfl, by decide, by decide⟩ rfl (Nat.le_of_ble_eq_true rfl) (c_X4_en (by first | assumption | omega) (by first | assumption | omega) (by first | assumption | omega)) ?_
          refine pw_aload_n hX rfl dX4_drops_97 (q := 98) rfl ?_
          refine pw_getMS hX 0 (by decide) fl_X4_7 rfl dX4_drops_98 (q := 101) rfl ?_
          refine pw_iload hX rfl dX4_drops_101 (q := 103) rfl ?_
          refine pw_ialdS hX (by omega) dX4_drops_103 (q := 104) rfl ?_
          refine pw_aload_n hX rfl dX4_drops_104 (q := 105) rfl ?_
          refine pw_getMS hX 0 (by decide) fl_X4_7 rfl dX4_drops_105 (q := 108) rfl ?_
          refine pw_iload hX rfl dX4_drops_108 (q := 110) rfl ?_
          refine pw_iconst hX (k := 1) rfl (by decide) dX4_drops_110 (q := 111) rfl ?_
          refine pw_iaddN hX dX4_drops_111 (q := 112) rfl ?_
          refine pw_ialdS hX (by omega) dX4_drops_112 (q := 113) rfl ?_
          refine pw_csI4 hX dX4_drops_113 (q := 116) rfl mi_X4_isNewer ml_X4_81 ⟨rfl, rfl, by decide, by decide⟩ rfl (Nat.le_of_ble_eq_true rfl) (c_X4_isNewer (bSe hB (by omega) (by omega)) (bSe hB (by omega) (by omega)) (bSe hB (by omega) (by omega)) (bSe hB (by omega) (by omega))) ?_
          refine pw_ifB_eq hX (tgt := 149) dX4_drops_116 (q := 119) rfl (by decide) (fun h_116 => ?_) (fun h_116 => ?_)
          · refine pw_aload_n hX rfl dX4_drops_149 (q := 150) rfl ?_
            refine pw_getMS hX 0 (by decide) fl_X4_7 rfl dX4_drops_150 (q := 153) rfl ?_
            refine pw_iload_n hX rfl dX4_drops_153 (q := 154) rfl ?_
            refine pw_iload_n hX rfl dX4_drops_154 (q := 155) rfl ?_
            refine pw_csI2 hX dX4_drops_155 (q := 158) rfl mi_X4_place ml_X4_29 ⟨rfl, rfl, by decide, by decide⟩ rfl (Nat.le_of_ble_eq_true rfl) (c_X4_place) ?_
            refine pw_iconst hX (k := 0) rfl (by decide) dX4_drops_158 (q := 159) rfl ?_
            refine pw_iastS hX (by omega) dX4_drops_159 (q := 160) rfl ?_
            refine pw_iconst hX (k := 1) rfl (by decide) dX4_drops_160 (q := 161) rfl ?_
            refine pw_ireturn hX dX4_drops_161 ⟨_, rfl, rfl⟩ ⟨congrArg (fun z => some (Value.int z)) ?_, ?_⟩
            · first | exact absurd rfl h_65 | rw [mDr, if_pos (show mDb S v t a = true from decide_eq_true ⟨h_49, h_60, ho4⟩)]
            · first | exact absurd rfl h_65 | (rw [mDrop, if_pos (show mDb S v t a = true from decide_eq_true ⟨h_49, h_60, ho4⟩)]; unfold mDs; first | (rw [if_neg (by simp [h_116])]; done) | (rw [if_pos h_116, upN_n S _ (show 225 + 84 * v + 7 * t + 2 ≠ 57 + 24 * v + 2 * t by omega)]; done))
          · refine pw_aload_n hX rfl dX4_drops_119 (q := 120) rfl ?_
            refine pw_getMS hX 0 (by decide) fl_X4_7 rfl dX4_drops_120 (q := 123) rfl ?_
            refine pw_iload hX rfl dX4_drops_123 (q := 125) rfl ?_
            refine pw_aload_n hX rfl dX4_drops_125 (q := 126) rfl ?_
            refine pw_iload_n hX rfl dX4_drops_126 (q := 127) rfl ?_
            refine pw_iload_n hX rfl dX4_drops_127 (q := 128) rfl ?_
            refine pw_iconst hX (k := 1) rfl (by decide) dX4_drops_128 (q := 129) rfl ?_
            refine pw_cvI3 hX dX4_drops_129 (q := 132) rfl mi_X4_en ml_X4_73 rcM ⟨rfl, rfl, by decide, by decide⟩ rfl (Nat.le_of_ble_eq_true rfl) (c_X4_en (by first | assumption | omega) (by first | assumption | omega) (by first | assumption | omega)) ?_
            refine pw_iastS hX (by omega) dX4_drops_132 (q := 133) rfl ?_
            refine pw_aload_n hX rfl dX4_drops_133 (q := 134) rfl ?_
            refine pw_getMS hX 0 (by decide) fl_X4_7 rfl dX4_drops_134 (q := 137) rfl ?_
            refine pw_iload hX rfl dX4_drops_137 (q := 139) rfl ?_
            refine pw_iconst hX (k := 1) rfl (by decide) dX4_drops_139 (q := 140) rfl ?_
            refine pw_iaddN hX dX4_drops_140 (q := 141) rfl ?_
            refine pw_aload_n hX rfl dX4_drops_141 (q := 142) rfl ?_
            refine pw_iload_n hX rfl dX4_drops_142 (q := 143) rfl ?_
            refine pw_iload_n hX rfl dX4_drops_143 (q := 144) rfl ?_
            refine pw_iconst hX (k := 2) rfl (by decide) dX4_drops_144 (q := 145) rfl ?_
            refine pw_cvI3 hX dX4_drops_145 (q := 148) rfl mi_X4_en ml_X4_73 rcM ⟨rfl, rfl, by decide, by decide⟩ rfl (Nat.le_of_ble_eq_true rfl) (c_X4_en (by first | assumption | omega) (by first | assumption | omega) (by first | assumption | omega)) ?_
            refine pw_iastS hX (by omega) dX4_drops_148 (q := 149) rfl ?_
            refine pw_aload_n hX rfl dX4_drops_149 (q := 150) rfl ?_
            refine pw_getMS hX 0 (by decide) fl_X4_7 rfl dX4_drops_150 (q := 153) rfl ?_
            refine pw_iload_n hX rfl dX4_drops_153 (q := 154) rfl ?_
            refine pw_iload_n hX rfl dX4_drops_154 (q := 155) rfl ?_
            refine pw_csI2 hX dX4_drops_155 (q := 158) rfl mi_X4_place ml_X4_29 ⟨rfl, rfl, by decide, by decide⟩ rfl (Nat.le_of_ble_eq_true rfl) (c_X4_place) ?_
            refine pw_iconst hX (k := 0) rfl (by decide) dX4_drops_158 (q := 159) rfl ?_
            refine pw_iastS hX (by omega) dX4_drops_159 (q := 160) rfl ?_
            refine pw_iconst hX (k := 1) rfl (by decide) dX4_drops_160 (q := 161) rfl ?_
            refine pw_ireturn hX dX4_drops_161 ⟨_, rfl, rfl⟩ ⟨congrArg (fun z => some (Value.int z)) ?_, ?_⟩
            · first | exact absurd rfl h_65 | rw [mDr, if_pos (show mDb S v t a = true from decide_eq_true ⟨h_49, h_60, ho4⟩)]
            · first | exact absurd rfl h_65 | (rw [mDrop, if_pos (show mDb S v t a = true from decide_eq_true ⟨h_49, h_60, ho4⟩)]; unfold mDs; first | (rw [if_neg (by simp [h_116])]; done) | (rw [if_pos h_116, upN_n S _ (show 225 + 84 * v + 7 * t + 2 ≠ 57 + 24 * v + 2 * t by omega)]; done))
        · refine pw_iconst hX (k := 0) rfl (by decide) dX4_drops_68 (q := 69) rfl ?_
          refine pw_ireturn hX dX4_drops_69 ⟨_, rfl, rfl⟩ ⟨congrArg (fun z => some (Value.int z)) ?_, ?_⟩
          · rw [mDr, if_neg (fun z => by have z2 := of_decide_eq_true z; simp_all)]
          · rw [mDrop, if_neg (fun z => by have z2 := of_decide_eq_true z; simp_all)]
  · refine pw_aload_n hX rfl dX4_drops_14 (q := 15) rfl ?_
    refine pw_getMS hX 0 (by decide) fl_X4_7 rfl dX4_drops_15 (q := 18) rfl ?_
    refine pw_iconst hX (k := 1) rfl (by decide) dX4_drops_18 (q := 19) rfl ?_
    refine pw_ialdS hX (by omega) dX4_drops_19 (q := 20) rfl ?_
    refine pw_aload_n hX rfl dX4_drops_20 (q := 21) rfl ?_
    refine pw_iload_n hX rfl dX4_drops_21 (q := 22) rfl ?_
    refine pw_iload_n hX rfl dX4_drops_22 (q := 23) rfl ?_
    refine pw_iconst hX (k := 5) rfl (by decide) dX4_drops_23 (q := 24) rfl ?_
    refine pw_cvI3 hX dX4_drops_24 (q := 27) rfl mi_X4_en ml_X4_73 rcM ⟨rfl, rfl, by decide, by decide⟩ rfl (Nat.le_of_ble_eq_true rfl) (c_X4_en (by first | assumption | omega) (by first | assumption | omega) (by first | assumption | omega)) ?_
    refine pw_isubN hX (by first | assumption | omega) dX4_drops_27 (q := 28) rfl ?_
    refine pw_aload_n hX rfl dX4_drops_28 (q := 29) rfl ?_
    refine pw_getMS hX 0 (by decide) fl_X4_7 rfl dX4_drops_29 (q := 32) rfl ?_
    refine pw_iconst hX (k := 2) rfl (by decide) dX4_drops_32 (q := 33) rfl ?_
    refine pw_ialdS hX (by omega) dX4_drops_33 (q := 34) rfl ?_
    refine pw_icmpN_lt hX (by first | omega | exact Nat.lt_of_le_of_lt Nat.and_le_right ha | exact bSw hB (by omega) (by omega) (by omega) | exact bSe hB (by omega) (by omega) | exact bS2 hB) (by first | omega | exact Nat.lt_of_le_of_lt Nat.and_le_right ha | exact bSw hB (by omega) (by omega) (by omega) | exact bSe hB (by omega) (by omega) | exact bS2 hB) (tgt := 41) dX4_drops_34 (q := 37) rfl (by decide) (fun h_34 => ?_) (fun h_34 => ?_)
    · refine pw_iconst hX (k := 0) rfl (by decide) dX4_drops_41 (q := 42) rfl ?_
      have ho4 : mOver S v t a = false := decide_eq_false (by omega)
      refine pw_istore hX (by decide) dX4_drops_42 (q := 44) rfl ?_
      refine pw_aload_n hX rfl dX4_drops_44 (q := 45) rfl ?_
      refine pw_iload_n hX rfl dX4_drops_45 (q := 46) rfl ?_
      refine pw_cvI1 hX dX4_drops_46 (q := 49) rfl mi_X4_isGone ml_X4_70 rcM ⟨rfl, rfl, by decide, by decide⟩ rfl (Nat.le_of_ble_eq_true rfl) (c_X4_isGone (by first | assumption | omega) (by first | assumption | omega)) ?_
      refine pw_ifB_ne hX (tgt := 68) dX4_drops_49 (q := 52) rfl (by decide) (fun h_49 => ?_) (fun h_49 => ?_)
      · have h_49 := of_decide_eq_true h_49
        refine pw_iconst hX (k := 0) rfl (by decide) dX4_drops_68 (q := 69) rfl ?_
        refine pw_ireturn hX dX4_drops_69 ⟨_, rfl, rfl⟩ ⟨congrArg (fun z => some (Value.int z)) ?_, ?_⟩
        · rw [mDr, if_neg (fun z => by have z2 := of_decide_eq_true z; simp_all)]
        · rw [mDrop, if_neg (fun z => by have z2 := of_decide_eq_true z; simp_all)]
      · have h_49 := of_decide_eq_false h_49
        refine pw_aload_n hX rfl dX4_drops_52 (q := 53) rfl ?_
        refine pw_iload_n hX rfl dX4_drops_53 (q := 54) rfl ?_
        refine pw_iload_n hX rfl dX4_drops_54 (q := 55) rfl ?_
        refine pw_iconst hX (k := 0) rfl (by decide) dX4_drops_55 (q := 56) rfl ?_
        refine pw_cvI3 hX dX4_drops_56 (q := 59) rfl mi_X4_en ml_X4_73 rcM ⟨rfl, rfl, by decide, by decide⟩ rfl (Nat.le_of_ble_eq_true rfl) (c_X4_en (by first | assumption | omega) (by first | assumption | omega) (by first | assumption | omega)) ?_
        refine pw_iconst hX (k := 2) rfl (by decide) dX4_drops_59 (q := 60) rfl ?_
        refine pw_icmpN_ne hX (by first | omega | exact Nat.lt_of_le_of_lt Nat.and_le_right ha | exact bSw hB (by omega) (by omega) (by omega) | exact bSe hB (by omega) (by omega) | exact bS2 hB) (by first | omega | exact Nat.lt_of_le_of_lt Nat.and_le_right ha | exact bSw hB (by omega) (by omega) (by omega) | exact bSe hB (by omega) (by omega) | exact bS2 hB) (tgt := 68) dX4_drops_60 (q := 63) rfl (by decide) (fun h_60 => ?_) (fun h_60 => ?_)
        · refine pw_iconst hX (k := 0) rfl (by decide) dX4_drops_68 (q := 69) rfl ?_
          refine pw_ireturn hX dX4_drops_69 ⟨_, rfl, rfl⟩ ⟨congrArg (fun z => some (Value.int z)) ?_, ?_⟩
          · rw [mDr, if_neg (fun z => by have z2 := of_decide_eq_true z; simp_all)]
          · rw [mDrop, if_neg (fun z => by have z2 := of_decide_eq_true z; simp_all)]
        · refine pw_iload hX rfl dX4_drops_63 (q := 65) rfl ?_
          refine pw_ifN_ne hX (by first | omega | exact Nat.lt_of_le_of_lt Nat.and_le_right ha | exact bSw hB (by omega) (by omega) (by omega) | exact bSe hB (by omega) (by omega) | exact bS2 hB) (tgt := 70) dX4_drops_65 (q := 68) rfl (by decide) (fun h_65 => ?_) (fun h_65 => ?_)
          · refine pw_bipush hX (k := 57) (by decide) dX4_drops_70 (q := 72) rfl ?_
            refine pw_bipush hX (k := 24) (by decide) dX4_drops_72 (q := 74) rfl ?_
            refine pw_iload_n hX rfl dX4_drops_74 (q := 75) rfl ?_
            refine pw_imulN hX dX4_drops_75 (q := 76) rfl ?_
            refine pw_iaddN hX dX4_drops_76 (q := 77) rfl ?_
            refine pw_iconst hX (k := 2) rfl (by decide) dX4_drops_77 (q := 78) rfl ?_
            refine pw_iload_n hX rfl dX4_drops_78 (q := 79) rfl ?_
            refine pw_imulN hX dX4_drops_79 (q := 80) rfl ?_
            refine pw_iaddN hX dX4_drops_80 (q := 81) rfl ?_
            refine pw_istore hX (by decide) dX4_drops_81 (q := 83) rfl ?_
            refine pw_aload_n hX rfl dX4_drops_83 (q := 84) rfl ?_
            refine pw_iload_n hX rfl dX4_drops_84 (q := 85) rfl ?_
            refine pw_iload_n hX rfl dX4_drops_85 (q := 86) rfl ?_
            refine pw_iconst hX (k := 1) rfl (by decide) dX4_drops_86 (q := 87) rfl ?_
            refine pw_cvI3 hX dX4_drops_87 (q := 90) rfl mi_X4_en ml_X4_73 rcM ⟨rfl, rfl, by decide, by decide⟩ rfl (Nat.le_of_ble_eq_true rfl) (c_X4_en (by first | assumption | omega) (by first | assumption | omega) (by first | assumption | omega)) ?_
            refine pw_aload_n hX rfl dX4_drops_90 (q := 91) rfl ?_
            refine pw_iload_n hX rfl dX4_drops_91 (q := 92) rfl ?_
            refine pw_iload_n hX rfl dX4_drops_92 (q := 93) rfl ?_
            refine pw_iconst hX (k := 2) rfl (by decide) dX4_drops_93 (q := 94) rfl ?_
            refine pw_cvI3 hX dX4_drops_94 (q := 97) rfl mi_X4_en ml_X4_73 rcM ⟨rfl, rfl, by decide, by decide⟩ rfl (Nat.le_of_ble_eq_true rfl) (c_X4_en (by first | assumption | omega) (by first | assumption | omega) (by first | assumption | omega)) ?_
            refine pw_aload_n hX rfl dX4_drops_97 (q := 98) rfl ?_
            refine pw_getMS hX 0 (by decide) fl_X4_7 rfl dX4_drops_98 (q := 101) rfl ?_
            refine pw_iload hX rfl dX4_drops_101 (q := 103) rfl ?_
            refine pw_ialdS hX (by omega) dX4_drops_103 (q := 104) rfl ?_
            refine pw_aload_n hX rfl dX4_drops_104 (q := 105) rfl ?_
            refine pw_getMS hX 0 (by decide) fl_X4_7 rfl dX4_drops_105 (q := 108) rfl ?_
            refine pw_iload hX rfl dX4_drops_108 (q := 110) rfl ?_
            refine pw_iconst hX (k := 1) rfl (by decide) dX4_drops_110 (q := 111) rfl ?_
            refine pw_iaddN hX dX4_drops_111 (q := 112) rfl ?_
            refine pw_ialdS hX (by omega) dX4_drops_112 (q := 113) rfl ?_
            refine pw_csI4 hX dX4_drops_113 (q := 116) rfl mi_X4_isNewer ml_X4_81 ⟨rfl, rfl, by decide, by decide⟩ rfl (Nat.le_of_ble_eq_true rfl) (c_X4_isNewer (bSe hB (by omega) (by omega)) (bSe hB (by omega) (by omega)) (bSe hB (by omega) (by omega)) (bSe hB (by omega) (by omega))) ?_
            refine pw_ifB_eq hX (tgt := 149) dX4_drops_116 (q := 119) rfl (by decide) (fun h_116 => ?_) (fun h_116 => ?_)
            · refine pw_aload_n hX rfl dX4_drops_149 (q := 150) rfl ?_
              refine pw_getMS hX 0 (by decide) fl_X4_7 rfl dX4_drops_150 (q := 153) rfl ?_
              refine pw_iload_n hX rfl dX4_drops_153 (q := 154) rfl ?_
              refine pw_iload_n hX rfl dX4_drops_154 (q := 155) rfl ?_
              refine pw_csI2 hX dX4_drops_155 (q := 158) rfl mi_X4_place ml_X4_29 ⟨rfl, rfl, by decide, by decide⟩ rfl (Nat.le_of_ble_eq_true rfl) (c_X4_place) ?_
              refine pw_iconst hX (k := 0) rfl (by decide) dX4_drops_158 (q := 159) rfl ?_
              refine pw_iastS hX (by omega) dX4_drops_159 (q := 160) rfl ?_
              refine pw_iconst hX (k := 1) rfl (by decide) dX4_drops_160 (q := 161) rfl ?_
              refine pw_ireturn hX dX4_drops_161 ⟨_, rfl, rfl⟩ ⟨congrArg (fun z => some (Value.int z)) ?_, ?_⟩
              · first | exact absurd rfl h_65 | rw [mDr, if_pos (show mDb S v t a = true from decide_eq_true ⟨h_49, h_60, ho4⟩)]
              · first | exact absurd rfl h_65 | (rw [mDrop, if_pos (show mDb S v t a = true from decide_eq_true ⟨h_49, h_60, ho4⟩)]; unfold mDs; first | (rw [if_neg (by simp [h_116])]; done) | (rw [if_pos h_116, upN_n S _ (show 225 + 84 * v + 7 * t + 2 ≠ 57 + 24 * v + 2 * t by omega)]; done))
            · refine pw_aload_n hX rfl dX4_drops_119 (q := 120) rfl ?_
              refine pw_getMS hX 0 (by decide) fl_X4_7 rfl dX4_drops_120 (q := 123) rfl ?_
              refine pw_iload hX rfl dX4_drops_123 (q := 125) rfl ?_
              refine pw_aload_n hX rfl dX4_drops_125 (q := 126) rfl ?_
              refine pw_iload_n hX rfl dX4_drops_126 (q := 127) rfl ?_
              refine pw_iload_n hX rfl dX4_drops_127 (q := 128) rfl ?_
              refine pw_iconst hX (k := 1) rfl (by decide) dX4_drops_128 (q := 129) rfl ?_
              refine pw_cvI3 hX dX4_drops_129 (q := 132) rfl mi_X4_en ml_X4_73 rcM ⟨rfl, rfl, by decide, by decide⟩ rfl (Nat.le_of_ble_eq_true rfl) (c_X4_en (by first | assumption | omega) (by first | assumption | omega) (by first | assumption | omega)) ?_
              refine pw_iastS hX (by omega) dX4_drops_132 (q := 133) rfl ?_
              refine pw_aload_n hX rfl dX4_drops_133 (q := 134) rfl ?_
              refine pw_getMS hX 0 (by decide) fl_X4_7 rfl dX4_drops_134 (q := 137) rfl ?_
              refine pw_iload hX rfl dX4_drops_137 (q := 139) rfl ?_
              refine pw_iconst hX (k := 1) rfl (by decide) dX4_drops_139 (q := 140) rfl ?_
              refine pw_iaddN hX dX4_drops_140 (q := 141) rfl ?_
              refine pw_aload_n hX rfl dX4_drops_141 (q := 142) rfl ?_
              refine pw_iload_n hX rfl dX4_drops_142 (q := 143) rfl ?_
              refine pw_iload_n hX rfl dX4_drops_143 (q := 144) rfl ?_
              refine pw_iconst hX (k := 2) rfl (by decide) dX4_drops_144 (q := 145) rfl ?_
              refine pw_cvI3 hX dX4_drops_145 (q := 148) rfl mi_X4_en ml_X4_73 rcM ⟨rfl, rfl, by decide, by decide⟩ rfl (Nat.le_of_ble_eq_true rfl) (c_X4_en (by first | assumption | omega) (by first | assumption | omega) (by first | assumption | omega)) ?_
              refine pw_iastS hX (by omega) dX4_drops_148 (q := 149) rfl ?_
              refine pw_aload_n hX rfl dX4_drops_149 (q := 150) rfl ?_
              refine pw_getMS hX 0 (by decide) fl_X4_7 rfl dX4_drops_150 (q := 153) rfl ?_
              refine pw_iload_n hX rfl dX4_drops_153 (q := 154) rfl ?_
              refine pw_iload_n hX rfl dX4_drops_154 (q := 155) rfl ?_
              refine pw_csI2 hX dX4_drops_155 (q := 158) rfl mi_X4_place ml_X4_29 ⟨rfl, rfl, by decide, by decide⟩ rfl (Nat.le_of_ble_eq_true rfl) (c_X4_place) ?_
              refine pw_iconst hX (k := 0) rfl (by decide) dX4_drops_158 (q := 159) rfl ?_
              refine pw_iastS hX (by omega) dX4_drops_159 (q := 160) rfl ?_
              refine pw_iconst hX (k := 1) rfl (by decide) dX4_drops_160 (q := 161) rfl ?_
              refine pw_ireturn hX dX4_drops_161 ⟨_, rfl, rfl⟩ ⟨congrArg (fun z => some (Value.int z)) ?_, ?_⟩
              · first | exact absurd rfl h_65 | rw [mDr, if_pos (show mDb S v t a = true from decide_eq_true ⟨h_49, h_60, ho4⟩)]
              · first | exact absurd rfl h_65 | (rw [mDrop, if_pos (show mDb S v t a = true from decide_eq_true ⟨h_49, h_60, ho4⟩)]; unfold mDs; first | (rw [if_neg (by simp [h_116])]; done) | (rw [if_pos h_116, upN_n S _ (show 225 + 84 * v + 7 * t + 2 ≠ 57 + 24 * v + 2 * t by omega)]; done))
          · refine pw_iconst hX (k := 0) rfl (by decide) dX4_drops_68 (q := 69) rfl ?_
            refine pw_ireturn hX dX4_drops_69 ⟨_, rfl, rfl⟩ ⟨congrArg (fun z => some (Value.int z)) ?_, ?_⟩
            · rw [mDr, if_neg (fun z => by have z2 := of_decide_eq_true z; simp_all)]
            · rw [mDrop, if_neg (fun z => by have z2 := of_decide_eq_true z; simp_all)]
    · refine pw_iconst hX (k := 1) rfl (by decide) dX4_drops_37 (q := 38) rfl ?_
      refine pw_goto hX (tgt := 42) dX4_drops_38 (by decide) ?_
      have ho4 : mOver S v t a = true := decide_eq_true (by first | (left; exact h_11) | (right; omega))
      refine pw_istore hX (by decide) dX4_drops_42 (q := 44) rfl ?_
      refine pw_aload_n hX rfl dX4_drops_44 (q := 45) rfl ?_
      refine pw_iload_n hX rfl dX4_drops_45 (q := 46) rfl ?_
      refine pw_cvI1 hX dX4_drops_46 (q := 49) rfl mi_X4_isGone ml_X4_70 rcM ⟨rfl, rfl, by decide, by decide⟩ rfl (Nat.le_of_ble_eq_true rfl) (c_X4_isGone (by first | assumption | omega) (by first | assumption | omega)) ?_
      refine pw_ifB_ne hX (tgt := 68) dX4_drops_49 (q := 52) rfl (by decide) (fun h_49 => ?_) (fun h_49 => ?_)
      · have h_49 := of_decide_eq_true h_49
        refine pw_iconst hX (k := 0) rfl (by decide) dX4_drops_68 (q := 69) rfl ?_
        refine pw_ireturn hX dX4_drops_69 ⟨_, rfl, rfl⟩ ⟨congrArg (fun z => some (Value.int z)) ?_, ?_⟩
        · rw [mDr, if_neg (fun z => by have z2 := of_decide_eq_true z; simp_all)]
        · rw [mDrop, if_neg (fun z => by have z2 := of_decide_eq_true z; simp_all)]
      · have h_49 := of_decide_eq_false h_49
        refine pw_aload_n hX rfl dX4_drops_52 (q := 53) rfl ?_
        refine pw_iload_n hX rfl dX4_drops_53 (q := 54) rfl ?_
        refine pw_iload_n hX rfl dX4_drops_54 (q := 55) rfl ?_
        refine pw_iconst hX (k := 0) rfl (by decide) dX4_drops_55 (q := 56) rfl ?_
        refine pw_cvI3 hX dX4_drops_56 (q := 59) rfl mi_X4_en ml_X4_73 rcM ⟨rfl, rfl, by decide, by decide⟩ rfl (Nat.le_of_ble_eq_true rfl) (c_X4_en (by first | assumption | omega) (by first | assumption | omega) (by first | assumption | omega)) ?_
        refine pw_iconst hX (k := 2) rfl (by decide) dX4_drops_59 (q := 60) rfl ?_
        refine pw_icmpN_ne hX (by first | omega | exact Nat.lt_of_le_of_lt Nat.and_le_right ha | exact bSw hB (by omega) (by omega) (by omega) | exact bSe hB (by omega) (by omega) | exact bS2 hB) (by first | omega | exact Nat.lt_of_le_of_lt Nat.and_le_right ha | exact bSw hB (by omega) (by omega) (by omega) | exact bSe hB (by omega) (by omega) | exact bS2 hB) (tgt := 68) dX4_drops_60 (q := 63) rfl (by decide) (fun h_60 => ?_) (fun h_60 => ?_)
        · refine pw_iconst hX (k := 0) rfl (by decide) dX4_drops_68 (q := 69) rfl ?_
          refine pw_ireturn hX dX4_drops_69 ⟨_, rfl, rfl⟩ ⟨congrArg (fun z => some (Value.int z)) ?_, ?_⟩
          · rw [mDr, if_neg (fun z => by have z2 := of_decide_eq_true z; simp_all)]
          · rw [mDrop, if_neg (fun z => by have z2 := of_decide_eq_true z; simp_all)]
        · refine pw_iload hX rfl dX4_drops_63 (q := 65) rfl ?_
          refine pw_ifN_ne hX (by first | omega | exact Nat.lt_of_le_of_lt Nat.and_le_right ha | exact bSw hB (by omega) (by omega) (by omega) | exact bSe hB (by omega) (by omega) | exact bS2 hB) (tgt := 70) dX4_drops_65 (q := 68) rfl (by decide) (fun h_65 => ?_) (fun h_65 => ?_)
          · refine pw_bipush hX (k := 57) (by decide) dX4_drops_70 (q := 72) rfl ?_
            refine pw_bipush hX (k := 24) (by decide) dX4_drops_72 (q := 74) rfl ?_
            refine pw_iload_n hX rfl dX4_drops_74 (q := 75) rfl ?_
            refine pw_imulN hX dX4_drops_75 (q := 76) rfl ?_
            refine pw_iaddN hX dX4_drops_76 (q := 77) rfl ?_
            refine pw_iconst hX (k := 2) rfl (by decide) dX4_drops_77 (q := 78) rfl ?_
            refine pw_iload_n hX rfl dX4_drops_78 (q := 79) rfl ?_
            refine pw_imulN hX dX4_drops_79 (q := 80) rfl ?_
            refine pw_iaddN hX dX4_drops_80 (q := 81) rfl ?_
            refine pw_istore hX (by decide) dX4_drops_81 (q := 83) rfl ?_
            refine pw_aload_n hX rfl dX4_drops_83 (q := 84) rfl ?_
            refine pw_iload_n hX rfl dX4_drops_84 (q := 85) rfl ?_
            refine pw_iload_n hX rfl dX4_drops_85 (q := 86) rfl ?_
            refine pw_iconst hX (k := 1) rfl (by decide) dX4_drops_86 (q := 87) rfl ?_
            refine pw_cvI3 hX dX4_drops_87 (q := 90) rfl mi_X4_en ml_X4_73 rcM ⟨rfl, rfl, by decide, by decide⟩ rfl (Nat.le_of_ble_eq_true rfl) (c_X4_en (by first | assumption | omega) (by first | assumption | omega) (by first | assumption | omega)) ?_
            refine pw_aload_n hX rfl dX4_drops_90 (q := 91) rfl ?_
            refine pw_iload_n hX rfl dX4_drops_91 (q := 92) rfl ?_
            refine pw_iload_n hX rfl dX4_drops_92 (q := 93) rfl ?_
            refine pw_iconst hX (k := 2) rfl (by decide) dX4_drops_93 (q := 94) rfl ?_
            refine pw_cvI3 hX dX4_drops_94 (q := 97) rfl mi_X4_en ml_X4_73 rcM ⟨rfl, rfl, by decide, by decide⟩ rfl (Nat.le_of_ble_eq_true rfl) (c_X4_en (by first | assumption | omega) (by first | assumption | omega) (by first | assumption | omega)) ?_
            refine pw_aload_n hX rfl dX4_drops_97 (q := 98) rfl ?_
            refine pw_getMS hX 0 (by decide) fl_X4_7 rfl dX4_drops_98 (q := 101) rfl ?_
            refine pw_iload hX rfl dX4_drops_101 (q := 103) rfl ?_
            refine pw_ialdS hX (by omega) dX4_drops_103 (q := 104) rfl ?_
            refine pw_aload_n hX rfl dX4_drops_104 (q := 105) rfl ?_
            refine pw_getMS hX 0 (by decide) fl_X4_7 rfl dX4_drops_105 (q := 108) rfl ?_
            refine pw_iload hX rfl dX4_drops_108 (q := 110) rfl ?_
            refine pw_iconst hX (k := 1) rfl (by decide) dX4_drops_110 (q := 111) rfl ?_
            refine pw_iaddN hX dX4_drops_111 (q := 112) rfl ?_
            refine pw_ialdS hX (by omega) dX4_drops_112 (q := 113) rfl ?_
            refine pw_csI4 hX dX4_drops_113 (q := 116) rfl mi_X4_isNewer ml_X4_81 ⟨rfl, rfl, by decide, by decide⟩ rfl (Nat.le_of_ble_eq_true rfl) (c_X4_isNewer (bSe hB (by omega) (by omega)) (bSe hB (by omega) (by omega)) (bSe hB (by omega) (by omega)) (bSe hB (by omega) (by omega))) ?_
            refine pw_ifB_eq hX (tgt := 149) dX4_drops_116 (q := 119) rfl (by decide) (fun h_116 => ?_) (fun h_116 => ?_)
            · refine pw_aload_n hX rfl dX4_drops_149 (q := 150) rfl ?_
              refine pw_getMS hX 0 (by decide) fl_X4_7 rfl dX4_drops_150 (q := 153) rfl ?_
              refine pw_iload_n hX rfl dX4_drops_153 (q := 154) rfl ?_
              refine pw_iload_n hX rfl dX4_drops_154 (q := 155) rfl ?_
              refine pw_csI2 hX dX4_drops_155 (q := 158) rfl mi_X4_place ml_X4_29 ⟨rfl, rfl, by decide, by decide⟩ rfl (Nat.le_of_ble_eq_true rfl) (c_X4_place) ?_
              refine pw_iconst hX (k := 0) rfl (by decide) dX4_drops_158 (q := 159) rfl ?_
              refine pw_iastS hX (by omega) dX4_drops_159 (q := 160) rfl ?_
              refine pw_iconst hX (k := 1) rfl (by decide) dX4_drops_160 (q := 161) rfl ?_
              refine pw_ireturn hX dX4_drops_161 ⟨_, rfl, rfl⟩ ⟨congrArg (fun z => some (Value.int z)) ?_, ?_⟩
              · first | exact absurd rfl h_65 | rw [mDr, if_pos (show mDb S v t a = true from decide_eq_true ⟨h_49, h_60, ho4⟩)]
              · first | exact absurd rfl h_65 | (rw [mDrop, if_pos (show mDb S v t a = true from decide_eq_true ⟨h_49, h_60, ho4⟩)]; unfold mDs; first | (rw [if_neg (by simp [h_116])]; done) | (rw [if_pos h_116, upN_n S _ (show 225 + 84 * v + 7 * t + 2 ≠ 57 + 24 * v + 2 * t by omega)]; done))
            · refine pw_aload_n hX rfl dX4_drops_119 (q := 120) rfl ?_
              refine pw_getMS hX 0 (by decide) fl_X4_7 rfl dX4_drops_120 (q := 123) rfl ?_
              refine pw_iload hX rfl dX4_drops_123 (q := 125) rfl ?_
              refine pw_aload_n hX rfl dX4_drops_125 (q := 126) rfl ?_
              refine pw_iload_n hX rfl dX4_drops_126 (q := 127) rfl ?_
              refine pw_iload_n hX rfl dX4_drops_127 (q := 128) rfl ?_
              refine pw_iconst hX (k := 1) rfl (by decide) dX4_drops_128 (q := 129) rfl ?_
              refine pw_cvI3 hX dX4_drops_129 (q := 132) rfl mi_X4_en ml_X4_73 rcM ⟨rfl, rfl, by decide, by decide⟩ rfl (Nat.le_of_ble_eq_true rfl) (c_X4_en (by first | assumption | omega) (by first | assumption | omega) (by first | assumption | omega)) ?_
              refine pw_iastS hX (by omega) dX4_drops_132 (q := 133) rfl ?_
              refine pw_aload_n hX rfl dX4_drops_133 (q := 134) rfl ?_
              refine pw_getMS hX 0 (by decide) fl_X4_7 rfl dX4_drops_134 (q := 137) rfl ?_
              refine pw_iload hX rfl dX4_drops_137 (q := 139) rfl ?_
              refine pw_iconst hX (k := 1) rfl (by decide) dX4_drops_139 (q := 140) rfl ?_
              refine pw_iaddN hX dX4_drops_140 (q := 141) rfl ?_
              refine pw_aload_n hX rfl dX4_drops_141 (q := 142) rfl ?_
              refine pw_iload_n hX rfl dX4_drops_142 (q := 143) rfl ?_
              refine pw_iload_n hX rfl dX4_drops_143 (q := 144) rfl ?_
              refine pw_iconst hX (k := 2) rfl (by decide) dX4_drops_144 (q := 145) rfl ?_
              refine pw_cvI3 hX dX4_drops_145 (q := 148) rfl mi_X4_en ml_X4_73 rcM ⟨rfl, rfl, by decide, by decide⟩ rfl (Nat.le_of_ble_eq_true rfl) (c_X4_en (by first | assumption | omega) (by first | assumption | omega) (by first | assumption | omega)) ?_
              refine pw_iastS hX (by omega) dX4_drops_148 (q := 149) rfl ?_
              refine pw_aload_n hX rfl dX4_drops_149 (q := 150) rfl ?_
              refine pw_getMS hX 0 (by decide) fl_X4_7 rfl dX4_drops_150 (q := 153) rfl ?_
              refine pw_iload_n hX rfl dX4_drops_153 (q := 154) rfl ?_
              refine pw_iload_n hX rfl dX4_drops_154 (q := 155) rfl ?_
              refine pw_csI2 hX dX4_drops_155 (q := 158) rfl mi_X4_place ml_X4_29 ⟨rfl, rfl, by decide, by decide⟩ rfl (Nat.le_of_ble_eq_true rfl) (c_X4_place) ?_
              refine pw_iconst hX (k := 0) rfl (by decide) dX4_drops_158 (q := 159) rfl ?_
              refine pw_iastS hX (by omega) dX4_drops_159 (q := 160) rfl ?_
              refine pw_iconst hX (k := 1) rfl (by decide) dX4_drops_160 (q := 161) rfl ?_
              refine pw_ireturn hX dX4_drops_161 ⟨_, rfl, rfl⟩ ⟨congrArg (fun z => some (Value.int z)) ?_, ?_⟩
              · first | exact absurd rfl h_65 | rw [mDr, if_pos (show mDb S v t a = true from decide_eq_true ⟨h_49, h_60, ho4⟩)]
              · first | exact absurd rfl h_65 | (rw [mDrop, if_pos (show mDb S v t a = true from decide_eq_true ⟨h_49, h_60, ho4⟩)]; unfold mDs; first | (rw [if_neg (by simp [h_116])]; done) | (rw [if_pos h_116, upN_n S _ (show 225 + 84 * v + 7 * t + 2 ≠ 57 + 24 * v + 2 * t by omega)]; done))
          · refine pw_iconst hX (k := 0) rfl (by decide) dX4_drops_68 (q := 69) rfl ?_
            refine pw_ireturn hX dX4_drops_69 ⟨_, rfl, rfl⟩ ⟨congrArg (fun z => some (Value.int z)) ?_, ?_⟩
            · rw [mDr, if_neg (fun z => by have z2 := of_decide_eq_true z; simp_all)]
            · rw [mDrop, if_neg (fun z => by have z2 := of_decide_eq_true z; simp_all)]
abbrev rm_X4_tickOne : Room := { frames := 3, cells := 0, slots := 0, locals := 69 }
set_option maxHeartbeats 4000000 in
set_option maxRecDepth 20000 in
theorem c_X4_tickOne {l : Launch} {g : Geo} {w : WD} {V : Nat → Nat → Nat} {S : Nat → Nat} (hB : bS S) (hW : bW S) (hT : S 1 + 1 < 2 ^ 30) : CtI l g yX4_tickOne cX4_tickOne 5 (some .int) rm_X4_tickOne [.ref (g_ad g 9 0)] (mW w V S) (nI (mTick1 S).2) (mW w V (mTick1 S).1) := by
  refine ct_of mi_X4_tickOne.2.2.2.2.2 ⟨rfl, rfl⟩ (List.forall_mem_cons.mpr ⟨rfl, fun _ h => absurd h List.not_mem_nil⟩) (Nat.le_of_ble_eq_true rfl) (fun P hX => ?_)
  replace hX : Gd l g RX4 cX4_tickOne rm_X4_tickOne 5 (some .int) _ _ P := hX
  show P (mW w V S) 0 [some (.ref (g_ad g 9 0)), none, none, none, none] []
  have h7 := hB.2.2.1
  refine pw_aload_n hX rfl dX4_tickOne_0 (q := 1) rfl ?_
  refine pw_getMS hX 0 (by decide) fl_X4_7 rfl dX4_tickOne_1 (q := 4) rfl ?_
  refine pw_iconst hX (k := 1) rfl (by decide) dX4_tickOne_4 (q := 5) rfl ?_
  refine pw_dup2 hX rfl rfl dX4_tickOne_5 (q := 6) rfl ?_
  refine pw_ialdS hX (by omega) dX4_tickOne_6 (q := 7) rfl ?_
  refine pw_iconst hX (k := 1) rfl (by decide) dX4_tickOne_7 (q := 8) rfl ?_
  refine pw_iaddN hX dX4_tickOne_8 (q := 9) rfl ?_
  refine pw_iastS hX (by omega) dX4_tickOne_9 (q := 10) rfl ?_
  have hB1 : bS (upN S 1 (S 1 + 1)) := bS_upN hB (by decide) hT
  have hW1 : bW (upN S 1 (S 1 + 1)) := fun v t h1 h2 => by
    rw [upN_n _ _ (by omega), upN_s]
    have := hW v t h1 h2
    omega
  have e0 : (upN S 1 (S 1 + 1)) 0 = S 0 := upN_n _ _ (by decide)
  refine pw_iconst hX (k := 0) rfl (by decide) dX4_tickOne_10 (q := 11) rfl ?_
  refine pw_istore_n hX (by decide) dX4_tickOne_11 (q := 12) rfl ?_
  refine pw_iconst hX (k := 0) rfl (by decide) dX4_tickOne_12 (q := 13) rfl ?_
  refine pw_istore_n hX (by decide) dX4_tickOne_13 (q := 14) rfl ?_
  suffices L : ∀ i, i ≤ S 0 → P (mW w V (upN S 1 (S 1 + 1))) 14 [some (.ref (g_ad g 9 0)), some (.int (nI (mHere (upN S 1 (S 1 + 1)) i))), some (.int (nI i)), none, none] [] by exact L 0 (Nat.zero_le _)
  refine loopUp (fun i hi ih => ?_)
  refine pw_iload_n hX rfl dX4_tickOne_14 (q := 15) rfl ?_
  refine pw_aload_n hX rfl dX4_tickOne_15 (q := 16) rfl ?_
  refine pw_getMS hX 0 (by decide) fl_X4_7 rfl dX4_tickOne_16 (q := 19) rfl ?_
  refine pw_iconst hX (k := 0) rfl (by decide) dX4_tickOne_19 (q := 20) rfl ?_
  refine pw_ialdS hX (by omega) dX4_tickOne_20 (q := 21) rfl ?_
  refine pw_icmpN_ge hX (by first | omega | exact bS0 hB1 | exact bS0 hBv.1) (by first | omega | exact bS0 hB1 | exact bS0 hBv.1) (tgt := 48) dX4_tickOne_21 (q := 24) rfl (by decide) (fun h_21 => ?_) (fun h_21 => ?_)
  · have e48 : i = S 0 := by omega
    subst e48
    refine pw_iconst hX (k := 0) rfl (by decide) dX4_tickOne_48 (q := 49) rfl ?_
    refine pw_istore_n hX (by decide) dX4_tickOne_49 (q := 50) rfl ?_
    refine pw_iconst hX (k := 0) rfl (by decide) dX4_tickOne_50 (q := 51) rfl ?_
    refine pw_istore_n hX (by decide) dX4_tickOne_51 (q := 52) rfl ?_
    suffices L : ∀ v, v ≤ S 0 → P (mW w V (mDv (upN S 1 (S 1 + 1)) (mHere (upN S 1 (S 1 + 1)) (S 0)) v).1) 52 [some (.ref (g_ad g 9 0)), some (.int (nI (mHere (upN S 1 (S 1 + 1)) (S 0)))), some (.int (nI (mDv (upN S 1 (S 1 + 1)) (mHere (upN S 1 (S 1 + 1)) (S 0)) v).2)), some (.int (nI v)), none] [] by exact L 0 (Nat.zero_le _)
    refine loopUp (fun v hv ihv => ?_)
    have hBv := bS_Dv hB1 hW1 (a := mHere (upN S 1 (S 1 + 1)) (S 0)) v (by omega)
    have ev : (mDv (upN S 1 (S 1 + 1)) (mHere (upN S 1 (S 1 + 1)) (S 0)) v).1 0 = S 0 := by rw [mDv_n _ (Or.inl (by decide)) _ (by omega), e0]
    refine pw_iload_n hX rfl dX4_tickOne_52 (q := 53) rfl ?_
    refine pw_aload_n hX rfl dX4_tickOne_53 (q := 54) rfl ?_
    refine pw_getMS hX 0 (by decide) fl_X4_7 rfl dX4_tickOne_54 (q := 57) rfl ?_
    refine pw_iconst hX (k := 0) rfl (by decide) dX4_tickOne_57 (q := 58) rfl ?_
    refine pw_ialdS hX (by omega) dX4_tickOne_58 (q := 59) rfl ?_
    refine pw_icmpN_ge hX (by first | omega | exact bS0 hB1 | exact bS0 hBv.1) (by first | omega | exact bS0 hB1 | exact bS0 hBv.1) (tgt := 95) dX4_tickOne_59 (q := 62) rfl (by decide) (fun h_59 => ?_) (fun h_59 => ?_)
    · have e95 : v = S 0 := by omega
      subst e95
      refine pw_iload_n hX rfl dX4_tickOne_95 (q := 96) rfl ?_
      refine pw_ireturn hX dX4_tickOne_96 ⟨_, rfl, rfl⟩ ⟨congrArg (fun z => some (Value.int z)) ?_, ?_⟩
      · rfl
      · rfl
    · refine pw_iconst hX (k := 0) rfl (by decide) dX4_tickOne_62 (q := 63) rfl ?_
      refine pw_istore hX (by decide) dX4_tickOne_63 (q := 65) rfl ?_
      suffices L : ∀ t, t ≤ 12 → P (mW w V (mDt (mDv (upN S 1 (S 1 + 1)) (mHere (upN S 1 (S 1 + 1)) (S 0)) v).1 v (mHere (upN S 1 (S 1 + 1)) (S 0)) t).1) 65 [some (.ref (g_ad g 9 0)), some (.int (nI (mHere (upN S 1 (S 1 + 1)) (S 0)))), some (.int (nI ((mDv (upN S 1 (S 1 + 1)) (mHere (upN S 1 (S 1 + 1)) (S 0)) v).2 + (mDt (mDv (upN S 1 (S 1 + 1)) (mHere (upN S 1 (S 1 + 1)) (S 0)) v).1 v (mHere (upN S 1 (S 1 + 1)) (S 0)) t).2))), some (.int (nI v)), some (.int (nI t))] [] by exact L 0 (Nat.zero_le _)
      refine loopUp (fun t ht iht => ?_)
      refine pw_iload hX rfl dX4_tickOne_65 (q := 67) rfl ?_
      refine pw_bipush hX (k := 12) (by decide) dX4_tickOne_67 (q := 69) rfl ?_
      refine pw_icmpN_ge hX (by first | omega | exact bS0 hB1 | exact bS0 hBv.1) (by first | omega | exact bS0 hB1 | exact bS0 hBv.1) (tgt := 89) dX4_tickOne_69 (q := 72) rfl (by decide) (fun h_69 => ?_) (fun h_69 => ?_)
      · refine pw_iinc hX rfl (by decide) (inc1 _) dX4_tickOne_89 (q := 92) rfl ?_
        refine pw_goto hX (tgt := 52) dX4_tickOne_92 (by decide) ?_
        have e65 : t = 12 := by omega
        subst e65
        exact pw_fg hX (lv' := [_, _, _, _, none]) (by repeat first | exact lle_nil | refine lle_cons ?_ | refine lle_none ?_) (pw_eq (congrArg (mW w V) (by simp only [mDv_s, mRow])) (by simp only [mDv_s, mRow, lst, inc1]) rfl (ihv (by omega)))
      · refine pw_iload_n hX rfl dX4_tickOne_72 (q := 73) rfl ?_
        refine pw_aload_n hX rfl dX4_tickOne_73 (q := 74) rfl ?_
        refine pw_iload_n hX rfl dX4_tickOne_74 (q := 75) rfl ?_
        refine pw_iload hX rfl dX4_tickOne_75 (q := 77) rfl ?_
        refine pw_iload_n hX rfl dX4_tickOne_77 (q := 78) rfl ?_
        refine pw_cvI3 hX dX4_tickOne_78 (q := 81) rfl mi_X4_drops ml_X4_124 rcM ⟨rfl, rfl, by decide, by decide⟩ rfl (Nat.le_of_ble_eq_true rfl) (c_X4_drops (by omega) (by omega) (Nat.lt_of_lt_of_le (bits_lt _ _) (Nat.pow_le_pow_right (by decide) (by omega))) (bS_Dt hBv.1 hBv.2 (by omega) t (by omega)).1 (bS_Dt hBv.1 hBv.2 (by omega) t (by omega)).2) ?_
        refine pw_iaddN hX dX4_tickOne_81 (q := 82) rfl ?_
        refine pw_istore_n hX (by decide) dX4_tickOne_82 (q := 83) rfl ?_
        refine pw_iinc hX rfl (by decide) (inc1 _) dX4_tickOne_83 (q := 86) rfl ?_
        refine pw_goto hX (tgt := 65) dX4_tickOne_86 (by decide) ?_
        exact pw_eq (congrArg (mW w V) (by rw [mDt_s])) (by rw [Nat.add_assoc, mDt_s]; rfl) rfl (iht (by omega))
  · refine pw_iload_n hX rfl dX4_tickOne_24 (q := 25) rfl ?_
    refine pw_aload_n hX rfl dX4_tickOne_25 (q := 26) rfl ?_
    refine pw_iload_n hX rfl dX4_tickOne_26 (q := 27) rfl ?_
    refine pw_cvI1 hX dX4_tickOne_27 (q := 30) rfl mi_X4_isGone ml_X4_70 rcM ⟨rfl, rfl, by decide, by decide⟩ rfl (Nat.le_of_ble_eq_true rfl) (c_X4_isGone (by omega) hB1) ?_
    refine pw_ifB_eq hX (tgt := 37) dX4_tickOne_30 (q := 33) rfl (by decide) (fun h_30 => ?_) (fun h_30 => ?_)
    · have h_30 := of_decide_eq_false h_30
      refine pw_iconst hX (k := 1) rfl (by decide) dX4_tickOne_37 (q := 38) rfl ?_
      refine pw_iload_n hX rfl dX4_tickOne_38 (q := 39) rfl ?_
      refine pw_ishl1 hX (by omega) dX4_tickOne_39 (q := 40) rfl ?_
      refine pw_iorN hX dX4_tickOne_40 (q := 41) rfl ?_
      refine pw_istore_n hX (by decide) dX4_tickOne_41 (q := 42) rfl ?_
      refine pw_iinc hX rfl (by decide) (inc1 _) dX4_tickOne_42 (q := 45) rfl ?_
      refine pw_goto hX (tgt := 14) dX4_tickOne_45 (by decide) ?_
      exact pw_eq rfl (by simp_all [lst, mHere, bits]) rfl (ih (by omega))
    · have h_30 := of_decide_eq_true h_30
      refine pw_iconst hX (k := 0) rfl (by decide) dX4_tickOne_33 (q := 34) rfl ?_
      refine pw_goto hX (tgt := 40) dX4_tickOne_34 (by decide) ?_
      refine pw_iorN hX dX4_tickOne_40 (q := 41) rfl ?_
      refine pw_istore_n hX (by decide) dX4_tickOne_41 (q := 42) rfl ?_
      refine pw_iinc hX rfl (by decide) (inc1 _) dX4_tickOne_42 (q := 45) rfl ?_
      refine pw_goto hX (tgt := 14) dX4_tickOne_45 (by decide) ?_
      exact pw_eq rfl (by simp_all [lst, mHere, bits]) rfl (ih (by omega))
abbrev rm_X4_ticks : Room := { frames := 4, cells := 0, slots := 0, locals := 93 }
set_option maxHeartbeats 4000000 in
set_option maxRecDepth 20000 in
theorem c_X4_ticks {l : Launch} {g : Geo} {w : WD} {V : Nat → Nat → Nat} {S : Nat → Nat} {v : Int32} (hB : bS S) (hW : bW S) : CtI l g yX4_ticks cX4_ticks 4 (some .int) rm_X4_ticks [.ref (g_ad g 9 0), .int v] (mW w V S) ((mTicks S v).2) (mW w V (mTicks S v).1) := by
  refine ct_of mi_X4_ticks.2.2.2.2.2 ⟨rfl, rfl⟩ (List.forall_mem_cons.mpr ⟨rfl, List.forall_mem_cons.mpr ⟨rfl, fun _ h => absurd h List.not_mem_nil⟩⟩) (Nat.le_of_ble_eq_true rfl) (fun P hX => ?_)
  replace hX : Gd l g RX4 cX4_ticks rm_X4_ticks 4 (some .int) _ _ P := hX
  show P (mW w V S) 0 [some (.ref (g_ad g 9 0)), some (.int v), none, none] []
  have h7 := hB.2.2.1
  have h1S := hB.2.2.2.1
  refine pw_iload_n hX rfl dX4_ticks_0 (q := 1) rfl ?_
  refine pw_iconst hX (k := 1) rfl (by decide) dX4_ticks_1 (q := 2) rfl ?_
  refine pw_bipush hX (k := 60) (by decide) dX4_ticks_2 (q := 4) rfl ?_
  refine pw_csI3 hX dX4_ticks_4 (q := 7) rfl mi_X4_in ml_X4_33 ⟨rfl, rfl, by decide, by decide⟩ rfl (Nat.le_of_ble_eq_true rfl) (c_X4_inN (by decide) (by decide)) ?_
  refine pw_ifB_ne hX (tgt := 13) dX4_ticks_7 (q := 10) rfl (by decide) (fun h_7 => ?_) (fun h_7 => ?_)
  · obtain ⟨i, hi0, hi, rfl⟩ := inN_of (by decide) h_7
    have hx : ix (nI i) = i := ix_nI (by omega)
    refine pw_aload_n hX rfl dX4_ticks_13 (q := 14) rfl ?_
    refine pw_getMS hX 0 (by decide) fl_X4_7 rfl dX4_ticks_14 (q := 17) rfl ?_
    refine pw_iconst hX (k := 1) rfl (by decide) dX4_ticks_17 (q := 18) rfl ?_
    refine pw_ialdS hX (by omega) dX4_ticks_18 (q := 19) rfl ?_
    refine pw_iload_n hX rfl dX4_ticks_19 (q := 20) rfl ?_
    refine pw_iaddN hX dX4_ticks_20 (q := 21) rfl ?_
    refine pw_ldc hX cn_X4_127 dX4_ticks_21 (q := 23) rfl ?_
    rw [show (100000 : Int32) = nI 100000 by decide]
    refine pw_icmpN_le hX (by first | omega | exact bS1 hB) (by first | omega | exact bS1 hB) (tgt := 29) dX4_ticks_23 (q := 26) rfl (by decide) (fun h_23 => ?_) (fun h_23 => ?_)
    · refine pw_iconst hX (k := 0) rfl (by decide) dX4_ticks_29 (q := 30) rfl ?_
      refine pw_istore_n hX (by decide) dX4_ticks_30 (q := 31) rfl ?_
      refine pw_iconst hX (k := 0) rfl (by decide) dX4_ticks_31 (q := 32) rfl ?_
      refine pw_istore_n hX (by decide) dX4_ticks_32 (q := 33) rfl ?_
      suffices L : ∀ k, k ≤ i → P (mW w V (mTickI S k).1) 33 [some (.ref (g_ad g 9 0)), some (.int (nI i)), some (.int (nI (mTickI S k).2)), some (.int (nI k))] [] by exact L 0 (Nat.zero_le _)
      refine loopUp (fun k hk ih => ?_)
      refine pw_iload_n hX rfl dX4_ticks_33 (q := 34) rfl ?_
      refine pw_iload_n hX rfl dX4_ticks_34 (q := 35) rfl ?_
      refine pw_icmpN_ge hX (by first | omega | exact bS1 hB) (by first | omega | exact bS1 hB) (tgt := 51) dX4_ticks_35 (q := 38) rfl (by decide) (fun h_35 => ?_) (fun h_35 => ?_)
      · refine pw_iload_n hX rfl dX4_ticks_51 (q := 52) rfl ?_
        refine pw_ireturn hX dX4_ticks_52 ⟨_, rfl, rfl⟩ ⟨congrArg (fun z => some (Value.int z)) ?_, ?_⟩
        · rw [mTicks, if_pos h_7, hx, if_neg (by omega), show k = i by omega]
        · rw [mTicks, if_pos h_7, hx, if_neg (by omega), show k = i by omega]
      · refine pw_iload_n hX rfl dX4_ticks_38 (q := 39) rfl ?_
        refine pw_aload_n hX rfl dX4_ticks_39 (q := 40) rfl ?_
        refine pw_cvI0 hX dX4_ticks_40 (q := 43) rfl mi_X4_tickOne ml_X4_128 rcM ⟨rfl, rfl, by decide, by decide⟩ rfl (Nat.le_of_ble_eq_true rfl) (c_X4_tickOne (mTickI_b hB hW k (by omega)).1 (mTickI_b hB hW k (by omega)).2 (by rw [(mTickI_t h7 k).1]; omega)) ?_
        refine pw_iaddN hX dX4_ticks_43 (q := 44) rfl ?_
        refine pw_istore_n hX (by decide) dX4_ticks_44 (q := 45) rfl ?_
        refine pw_iinc hX rfl (by decide) (inc1 _) dX4_ticks_45 (q := 48) rfl ?_
        refine pw_goto hX (tgt := 33) dX4_ticks_48 (by decide) ?_
        exact pw_eq rfl rfl rfl (ih (by omega))
    · refine pw_ldc hX cn_X4_45 dX4_ticks_26 (q := 28) rfl ?_
      refine pw_ireturn hX dX4_ticks_28 ⟨_, rfl, rfl⟩ ⟨congrArg (fun z => some (Value.int z)) ?_, ?_⟩
      · rw [mTicks, if_pos h_7, hx, if_pos h_23]
      · rw [mTicks, if_pos h_7, hx, if_pos h_23]
  · refine pw_ldc hX cn_X4_40 dX4_ticks_10 (q := 12) rfl ?_
    refine pw_ireturn hX dX4_ticks_12 ⟨_, rfl, rfl⟩ ⟨congrArg (fun z => some (Value.int z)) ?_, ?_⟩
    · rw [mTicks, if_neg (by simp [h_7])]
    · rw [mTicks, if_neg (by simp [h_7])]
abbrev rm_X4_tick : Room := { frames := 5, cells := 0, slots := 0, locals := 116 }
set_option maxHeartbeats 4000000 in
set_option maxRecDepth 20000 in
theorem c_X4_tick {l : Launch} {g : Geo} {w : WD} {V : Nat → Nat → Nat} {S : Nat → Nat} {v : Int32} (h4 : V 0 4 ≤ 4) (hB : bS S) (hW : bW S) : CtI l g yX4_tick cX4_tick 2 (some .int) rm_X4_tick [.ref (g_ad g 9 0), .int v] (mW w V S) ((mTicks S v).2) (mW w (mActed (vA V 3 S) (mTicks S v).2) (mTicks S v).1) := by
  refine ct_of mi_X4_tick.2.2.2.2.2 ⟨rfl, rfl⟩ (List.forall_mem_cons.mpr ⟨rfl, List.forall_mem_cons.mpr ⟨rfl, fun _ h => absurd h List.not_mem_nil⟩⟩) (Nat.le_of_ble_eq_true rfl) (fun P hX => ?_)
  replace hX : Gd l g RX4 cX4_tick rm_X4_tick 2 (some .int) _ _ P := hX
  show P (mW w V S) 0 [some (.ref (g_ad g 9 0)), some (.int v)] []
  have h7 := hB.2.2.1
  refine pw_aload_n hX rfl dX4_tick_0 (q := 1) rfl ?_
  refine pw_cvV0 hX dX4_tick_1 (q := 4) rfl mi_X4_keeps ml_X4_46 rcM ⟨rfl, rfl, by decide, by decide⟩ rfl (Nat.le_of_ble_eq_true rfl) (c_X4_keeps) ?_
  refine pw_aload_n hX rfl dX4_tick_4 (q := 5) rfl ?_
  refine pw_aload_n hX rfl dX4_tick_5 (q := 6) rfl ?_
  refine pw_iload_n hX rfl dX4_tick_6 (q := 7) rfl ?_
  refine pw_cvI1 hX dX4_tick_7 (q := 10) rfl mi_X4_ticks ml_X4_132 rcM ⟨rfl, rfl, by decide, by decide⟩ rfl (Nat.le_of_ble_eq_true rfl) (c_X4_ticks hB hW) ?_
  refine pw_cvI1 hX dX4_tick_10 (q := 13) rfl mi_X4_acted ml_X4_49 rcM ⟨rfl, rfl, by decide, by decide⟩ rfl (Nat.le_of_ble_eq_true rfl) (c_X4_acted (show (vA V 3 S) 0 4 ≤ 4 from h4)) ?_
  refine pw_ireturn hX dX4_tick_13 ⟨_, rfl, rfl⟩ ⟨congrArg (fun z => some (Value.int z)) ?_, ?_⟩
  · rfl
  · rfl
theorem mBest_s (S : Nat → Nat) (t v : Nat) : mBest S t (v + 1) = if S (225 + 84 * v + 7 * t + 0) ≠ 0 ∧ (mBest S t v = 0 ∨ mHN S v (mBest S t v - 1) t = true) then v + 1 else mBest S t v := rfl
theorem bv_s (b : Nat) : bv (b + 1) = nI b := rfl
theorem nI_nneg {b : Nat} (h : b < 2 ^ 31) : ¬ nI b < 0 := nI_pos h
abbrev rm_X4_newest : Room := { frames := 4, cells := 0, slots := 0, locals := 90 }
set_option maxHeartbeats 4000000 in
set_option maxRecDepth 20000 in
theorem c_X4_newest {l : Launch} {g : Geo} {w : WD} {V : Nat → Nat → Nat} {S : Nat → Nat} {v : Int32} (hB : bS S) : CtI l g yX4_newest cX4_newest 5 (some .int) rm_X4_newest [.ref (g_ad g 9 0), .int v] (mW w V S) (mNewest S v) (mW w V S) := by
  refine ct_of mi_X4_newest.2.2.2.2.2 ⟨rfl, rfl⟩ (List.forall_mem_cons.mpr ⟨rfl, List.forall_mem_cons.mpr ⟨rfl, fun _ h => absurd h List.not_mem_nil⟩⟩) (Nat.le_of_ble_eq_true rfl) (fun P hX => ?_)
  replace hX : Gd l g RX4 cX4_newest rm_X4_newest 5 (some .int) _ _ P := hX
  show P (mW w V S) 0 [some (.ref (g_ad g 9 0)), some (.int v), none, none, none] []
  have h7 := hB.2.2.1
  refine pw_iload_n hX rfl dX4_newest_0 (q := 1) rfl ?_
  refine pw_csI1 hX dX4_newest_1 (q := 4) rfl mi_X4_isTopic ml_X4_88 ⟨rfl, rfl, by decide, by decide⟩ rfl (Nat.le_of_ble_eq_true rfl) (c_X4_isTopic) ?_
  refine pw_ifB_ne hX (tgt := 10) dX4_newest_4 (q := 7) rfl (by decide) (fun h_4 => ?_) (fun h_4 => ?_)
  · obtain ⟨j, hj, rfl⟩ := hasN_of (by decide) h_4
    have hxj : ix (nI j) = j := ix_nI (by omega)
    refine pw_iconstm hX dX4_newest_10 (q := 11) rfl ?_
    refine pw_istore_n hX (by decide) dX4_newest_11 (q := 12) rfl ?_
    refine pw_iconst hX (k := 0) rfl (by decide) dX4_newest_12 (q := 13) rfl ?_
    refine pw_istore_n hX (by decide) dX4_newest_13 (q := 14) rfl ?_
    suffices L : ∀ v, v ≤ S 0 → P (mW w V S) 14 [some (.ref (g_ad g 9 0)), some (.int (nI j)), some (.int (bv (mBest S j v))), some (.int (nI v)), none] [] by exact L 0 (Nat.zero_le _)
    refine loopUp (fun v hv ih => ?_)
    have hbl := mBest_le S j v
    refine pw_iload_n hX rfl dX4_newest_14 (q := 15) rfl ?_
    refine pw_aload_n hX rfl dX4_newest_15 (q := 16) rfl ?_
    refine pw_getMS hX 0 (by decide) fl_X4_7 rfl dX4_newest_16 (q := 19) rfl ?_
    refine pw_iconst hX (k := 0) rfl (by decide) dX4_newest_19 (q := 20) rfl ?_
    refine pw_ialdS hX (by omega) dX4_newest_20 (q := 21) rfl ?_
    refine pw_icmpN_ge hX (by first | omega | exact bS0 hB | exact bSw hB (by omega) (by omega) (by omega) | exact bSe hB (by omega) (by omega) | exact bS1 hB | exact bS2 hB) (by first | omega | exact bS0 hB | exact bSw hB (by omega) (by omega) (by omega) | exact bSe hB (by omega) (by omega) | exact bS1 hB | exact bS2 hB) (tgt := 60) dX4_newest_21 (q := 24) rfl (by decide) (fun h_21 => ?_) (fun h_21 => ?_)
    · have e60 : v = S 0 := by omega
      subst e60
      refine pw_iconst hX (k := 0) rfl (by decide) dX4_newest_60 (q := 61) rfl ?_
      refine pw_istore_n hX (by decide) dX4_newest_61 (q := 62) rfl ?_
      refine pw_iconst hX (k := 0) rfl (by decide) dX4_newest_62 (q := 63) rfl ?_
      refine pw_istore hX (by decide) dX4_newest_63 (q := 65) rfl ?_
      rcases hb0 : mBest S j (S 0) with _ | b
      · skip
        refine pw_iload hX rfl dX4_newest_65 (q := 67) rfl ?_
        refine pw_aload_n hX rfl dX4_newest_67 (q := 68) rfl ?_
        refine pw_getMS hX 0 (by decide) fl_X4_7 rfl dX4_newest_68 (q := 71) rfl ?_
        refine pw_iconst hX (k := 0) rfl (by decide) dX4_newest_71 (q := 72) rfl ?_
        refine pw_ialdS hX (by omega) dX4_newest_72 (q := 73) rfl ?_
        refine pw_icmpN_ge hX (by first | omega | exact bS0 hB | exact bSw hB (by omega) (by omega) (by omega) | exact bSe hB (by omega) (by omega) | exact bS1 hB | exact bS2 hB) (by first | omega | exact bS0 hB | exact bSw hB (by omega) (by omega) (by omega) | exact bSe hB (by omega) (by omega) | exact bS1 hB | exact bS2 hB) (tgt := 108) dX4_newest_73 (q := 76) rfl (by decide) (fun h_73 => ?_) (fun h_73 => ?_)
        · refine pw_iload_n hX rfl dX4_newest_108 (q := 109) rfl ?_
          refine pw_if_ge hX (tgt := 117) dX4_newest_109 (q := 112) rfl (by decide) (fun h_109 => ?_) (fun h_109 => ?_)
          · refine pw_iload_n hX rfl dX4_newest_117 (q := 118) rfl ?_
            refine pw_ireturn hX dX4_newest_118 ⟨_, rfl, rfl⟩ ⟨congrArg (fun z => some (Value.int z)) ?_, ?_⟩
            · first | (rw [mNewest, if_pos h_4, hxj, if_pos hb0]; done) | exact absurd h_77 (nI_nneg (by omega)) | exact absurd (show bv 0 < 0 by decide) h_77 | exact absurd h_109 (by decide) | exact absurd (nI_pos' (by omega)) h_109 | (rw [mNewest, if_pos h_4, hxj, hb0, if_neg (by omega), show u = S 0 by omega]; rfl)
            · rfl
          · refine pw_ldc hX cn_X4_80 dX4_newest_112 (q := 114) rfl ?_
            refine pw_goto hX (tgt := 118) dX4_newest_114 (by decide) ?_
            refine pw_ireturn hX dX4_newest_118 ⟨_, rfl, rfl⟩ ⟨congrArg (fun z => some (Value.int z)) ?_, ?_⟩
            · first | (rw [mNewest, if_pos h_4, hxj, if_pos hb0]; done) | exact absurd h_77 (nI_nneg (by omega)) | exact absurd (show bv 0 < 0 by decide) h_77 | exact absurd h_109 (by decide) | exact absurd (nI_pos' (by omega)) h_109 | (rw [mNewest, if_pos h_4, hxj, hb0, if_neg (by omega), show u = S 0 by omega]; rfl)
            · rfl
        · refine pw_iload_n hX rfl dX4_newest_76 (q := 77) rfl ?_
          refine pw_if_lt hX (tgt := 108) dX4_newest_77 (q := 80) rfl (by decide) (fun h_77 => ?_) (fun h_77 => ?_)
          · refine pw_iload_n hX rfl dX4_newest_108 (q := 109) rfl ?_
            refine pw_if_ge hX (tgt := 117) dX4_newest_109 (q := 112) rfl (by decide) (fun h_109 => ?_) (fun h_109 => ?_)
            · refine pw_iload_n hX rfl dX4_newest_117 (q := 118) rfl ?_
              refine pw_ireturn hX dX4_newest_118 ⟨_, rfl, rfl⟩ ⟨congrArg (fun z => some (Value.int z)) ?_, ?_⟩
              · first | (rw [mNewest, if_pos h_4, hxj, if_pos hb0]; done) | exact absurd h_77 (nI_nneg (by omega)) | exact absurd (show bv 0 < 0 by decide) h_77 | exact absurd h_109 (by decide) | exact absurd (nI_pos' (by omega)) h_109 | (rw [mNewest, if_pos h_4, hxj, hb0, if_neg (by omega), show u = S 0 by omega]; rfl)
              · rfl
            · refine pw_ldc hX cn_X4_80 dX4_newest_112 (q := 114) rfl ?_
              refine pw_goto hX (tgt := 118) dX4_newest_114 (by decide) ?_
              refine pw_ireturn hX dX4_newest_118 ⟨_, rfl, rfl⟩ ⟨congrArg (fun z => some (Value.int z)) ?_, ?_⟩
              · first | (rw [mNewest, if_pos h_4, hxj, if_pos hb0]; done) | exact absurd h_77 (nI_nneg (by omega)) | exact absurd (show bv 0 < 0 by decide) h_77 | exact absurd h_109 (by decide) | exact absurd (nI_pos' (by omega)) h_109 | (rw [mNewest, if_pos h_4, hxj, hb0, if_neg (by omega), show u = S 0 by omega]; rfl)
              · rfl
          · exact absurd (show bv 0 < 0 by decide) h_77
      · rw [bv_s]
        suffices L : ∀ u, u ≤ S 0 → P (mW w V S) 65 [some (.ref (g_ad g 9 0)), some (.int (nI j)), some (.int (nI b)), some (.int (nI (bits (fun u => mSame S u b j) u))), some (.int (nI u))] [] by exact L 0 (Nat.zero_le _)
        refine loopUp (fun u hu ih2 => ?_)
        refine pw_iload hX rfl dX4_newest_65 (q := 67) rfl ?_
        refine pw_aload_n hX rfl dX4_newest_67 (q := 68) rfl ?_
        refine pw_getMS hX 0 (by decide) fl_X4_7 rfl dX4_newest_68 (q := 71) rfl ?_
        refine pw_iconst hX (k := 0) rfl (by decide) dX4_newest_71 (q := 72) rfl ?_
        refine pw_ialdS hX (by omega) dX4_newest_72 (q := 73) rfl ?_
        refine pw_icmpN_ge hX (by first | omega | exact bS0 hB | exact bSw hB (by omega) (by omega) (by omega) | exact bSe hB (by omega) (by omega) | exact bS1 hB | exact bS2 hB) (by first | omega | exact bS0 hB | exact bSw hB (by omega) (by omega) (by omega) | exact bSe hB (by omega) (by omega) | exact bS1 hB | exact bS2 hB) (tgt := 108) dX4_newest_73 (q := 76) rfl (by decide) (fun h_73 => ?_) (fun h_73 => ?_)
        · refine pw_iload_n hX rfl dX4_newest_108 (q := 109) rfl ?_
          refine pw_if_ge hX (tgt := 117) dX4_newest_109 (q := 112) rfl (by decide) (fun h_109 => ?_) (fun h_109 => ?_)
          · refine pw_iload_n hX rfl dX4_newest_117 (q := 118) rfl ?_
            refine pw_ireturn hX dX4_newest_118 ⟨_, rfl, rfl⟩ ⟨congrArg (fun z => some (Value.int z)) ?_, ?_⟩
            · first | (rw [mNewest, if_pos h_4, hxj, if_pos hb0]; done) | exact absurd h_77 (nI_nneg (by omega)) | exact absurd (show bv 0 < 0 by decide) h_77 | exact absurd h_109 (by decide) | exact absurd (nI_pos' (by omega)) h_109 | (rw [mNewest, if_pos h_4, hxj, hb0, if_neg (by omega), show u = S 0 by omega]; rfl)
            · rfl
          · refine pw_ldc hX cn_X4_80 dX4_newest_112 (q := 114) rfl ?_
            refine pw_goto hX (tgt := 118) dX4_newest_114 (by decide) ?_
            refine pw_ireturn hX dX4_newest_118 ⟨_, rfl, rfl⟩ ⟨congrArg (fun z => some (Value.int z)) ?_, ?_⟩
            · first | (rw [mNewest, if_pos h_4, hxj, if_pos hb0]; done) | exact absurd h_77 (nI_nneg (by omega)) | exact absurd (show bv 0 < 0 by decide) h_77 | exact absurd h_109 (by decide) | exact absurd (nI_pos' (by omega)) h_109 | (rw [mNewest, if_pos h_4, hxj, hb0, if_neg (by omega), show u = S 0 by omega]; rfl)
            · rfl
        · refine pw_iload_n hX rfl dX4_newest_76 (q := 77) rfl ?_
          refine pw_if_lt hX (tgt := 108) dX4_newest_77 (q := 80) rfl (by decide) (fun h_77 => ?_) (fun h_77 => ?_)
          · exact absurd h_77 (nI_nneg (by omega))
          · refine pw_iload_n hX rfl dX4_newest_80 (q := 81) rfl ?_
            refine pw_aload_n hX rfl dX4_newest_81 (q := 82) rfl ?_
            refine pw_iload hX rfl dX4_newest_82 (q := 84) rfl ?_
            refine pw_iload_n hX rfl dX4_newest_84 (q := 85) rfl ?_
            refine pw_iload_n hX rfl dX4_newest_85 (q := 86) rfl ?_
            refine pw_cvI3 hX dX4_newest_86 (q := 89) rfl mi_X4_areSame ml_X4_111 rcM ⟨rfl, rfl, by decide, by decide⟩ rfl (Nat.le_of_ble_eq_true rfl) (c_X4_areSame (by omega) (by omega) hj hB) ?_
            refine pw_ifB_eq hX (tgt := 99) dX4_newest_89 (q := 92) rfl (by decide) (fun h_89 => ?_) (fun h_89 => ?_)
            · refine pw_iconst hX (k := 0) rfl (by decide) dX4_newest_99 (q := 100) rfl ?_
              refine pw_iorN hX dX4_newest_100 (q := 101) rfl ?_
              refine pw_istore_n hX (by decide) dX4_newest_101 (q := 102) rfl ?_
              refine pw_iinc hX rfl (by decide) (inc1 _) dX4_newest_102 (q := 105) rfl ?_
              refine pw_goto hX (tgt := 65) dX4_newest_105 (by decide) ?_
              exact pw_eq rfl (by simp_all [lst, bits]) rfl (ih2 (by omega))
            · refine pw_iconst hX (k := 1) rfl (by decide) dX4_newest_92 (q := 93) rfl ?_
              refine pw_iload hX rfl dX4_newest_93 (q := 95) rfl ?_
              refine pw_ishl1 hX (by omega) dX4_newest_95 (q := 96) rfl ?_
              refine pw_goto hX (tgt := 100) dX4_newest_96 (by decide) ?_
              refine pw_iorN hX dX4_newest_100 (q := 101) rfl ?_
              refine pw_istore_n hX (by decide) dX4_newest_101 (q := 102) rfl ?_
              refine pw_iinc hX rfl (by decide) (inc1 _) dX4_newest_102 (q := 105) rfl ?_
              refine pw_goto hX (tgt := 65) dX4_newest_105 (by decide) ?_
              exact pw_eq rfl (by simp_all [lst, bits]) rfl (ih2 (by omega))
    · refine pw_aload_n hX rfl dX4_newest_24 (q := 25) rfl ?_
      refine pw_iload_n hX rfl dX4_newest_25 (q := 26) rfl ?_
      refine pw_iload_n hX rfl dX4_newest_26 (q := 27) rfl ?_
      refine pw_iconst hX (k := 0) rfl (by decide) dX4_newest_27 (q := 28) rfl ?_
      refine pw_cvI3 hX dX4_newest_28 (q := 31) rfl mi_X4_en ml_X4_73 rcM ⟨rfl, rfl, by decide, by decide⟩ rfl (Nat.le_of_ble_eq_true rfl) (c_X4_en (by first | assumption | omega) (by first | assumption | omega) (by first | assumption | omega)) ?_
      refine pw_ifN_eq hX (by first | omega | exact bS0 hB | exact bSw hB (by omega) (by omega) (by omega) | exact bSe hB (by omega) (by omega) | exact bS1 hB | exact bS2 hB) (tgt := 52) dX4_newest_31 (q := 34) rfl (by decide) (fun h_31 => ?_) (fun h_31 => ?_)
      · refine pw_iload_n hX rfl dX4_newest_52 (q := 53) rfl ?_
        refine pw_istore_n hX (by decide) dX4_newest_53 (q := 54) rfl ?_
        refine pw_iinc hX rfl (by decide) (inc1 _) dX4_newest_54 (q := 57) rfl ?_
        refine pw_goto hX (tgt := 14) dX4_newest_57 (by decide) ?_
        refine pw_eq rfl (congrArg (fun z => [some (Value.ref (g_ad g 9 0)), some (Value.int (nI j)), some (Value.int z), some (Value.int (nI (v + 1))), none]) (?_ : _ = bv (mBest S j (v + 1)))) rfl (ih (by omega))
        rw [show mBest S j (v + 1) = mBest S j v by rw [mBest_s]; exact if_neg (fun z => z.1 h_31)]
      · refine pw_iload_n hX rfl dX4_newest_34 (q := 35) rfl ?_
        refine pw_if_lt hX (tgt := 48) dX4_newest_35 (q := 38) rfl (by decide) (fun h_35 => ?_) (fun h_35 => ?_)
        · have hz : mBest S j v = 0 := by
            rcases hb9 : mBest S j v with _ | b
            · rfl
            · rw [hb9, bv_s] at h_35; exact absurd h_35 (nI_nneg (by omega))
          refine pw_iload_n hX rfl dX4_newest_48 (q := 49) rfl ?_
          refine pw_goto hX (tgt := 53) dX4_newest_49 (by decide) ?_
          refine pw_istore_n hX (by decide) dX4_newest_53 (q := 54) rfl ?_
          refine pw_iinc hX rfl (by decide) (inc1 _) dX4_newest_54 (q := 57) rfl ?_
          refine pw_goto hX (tgt := 14) dX4_newest_57 (by decide) ?_
          refine pw_eq rfl (congrArg (fun z => [some (Value.ref (g_ad g 9 0)), some (Value.int (nI j)), some (Value.int z), some (Value.int (nI (v + 1))), none]) (?_ : _ = bv (mBest S j (v + 1)))) rfl (ih (by omega))
          rw [show mBest S j (v + 1) = v + 1 by rw [mBest_s]; exact if_pos ⟨h_31, Or.inl hz⟩]; rfl
        · obtain ⟨b, hbb⟩ : ∃ b, mBest S j v = b + 1 := by
            rcases hb9 : mBest S j v with _ | b
            · rw [hb9] at h_35; exact absurd (show bv 0 < 0 by decide) h_35
            · exact ⟨b, rfl⟩
          rw [hbb, bv_s]
          refine pw_aload_n hX rfl dX4_newest_38 (q := 39) rfl ?_
          refine pw_iload_n hX rfl dX4_newest_39 (q := 40) rfl ?_
          refine pw_iload_n hX rfl dX4_newest_40 (q := 41) rfl ?_
          refine pw_iload_n hX rfl dX4_newest_41 (q := 42) rfl ?_
          refine pw_cvI3 hX dX4_newest_42 (q := 45) rfl mi_X4_hasNewer ml_X4_85 rcM ⟨rfl, rfl, by decide, by decide⟩ rfl (Nat.le_of_ble_eq_true rfl) (c_X4_hasNewer (by omega) (by omega) hj hB) ?_
          refine pw_ifB_eq hX (tgt := 52) dX4_newest_45 (q := 48) rfl (by decide) (fun h_45 => ?_) (fun h_45 => ?_)
          · refine pw_iload_n hX rfl dX4_newest_52 (q := 53) rfl ?_
            refine pw_istore_n hX (by decide) dX4_newest_53 (q := 54) rfl ?_
            refine pw_iinc hX rfl (by decide) (inc1 _) dX4_newest_54 (q := 57) rfl ?_
            refine pw_goto hX (tgt := 14) dX4_newest_57 (by decide) ?_
            refine pw_eq rfl (congrArg (fun z => [some (Value.ref (g_ad g 9 0)), some (Value.int (nI j)), some (Value.int z), some (Value.int (nI (v + 1))), none]) (?_ : _ = bv (mBest S j (v + 1)))) rfl (ih (by omega))
            rw [show mBest S j (v + 1) = mBest S j v by
                  rw [mBest_s, hbb]
                  refine if_neg ?_
                  rintro ⟨z1, z2 | z2⟩
                  · omega
                  · rw [Nat.add_sub_cancel, h_45] at z2; exact absurd z2 (by decide), hbb]; rfl
          · refine pw_iload_n hX rfl dX4_newest_48 (q := 49) rfl ?_
            refine pw_goto hX (tgt := 53) dX4_newest_49 (by decide) ?_
            refine pw_istore_n hX (by decide) dX4_newest_53 (q := 54) rfl ?_
            refine pw_iinc hX rfl (by decide) (inc1 _) dX4_newest_54 (q := 57) rfl ?_
            refine pw_goto hX (tgt := 14) dX4_newest_57 (by decide) ?_
            refine pw_eq rfl (congrArg (fun z => [some (Value.ref (g_ad g 9 0)), some (Value.int (nI j)), some (Value.int z), some (Value.int (nI (v + 1))), none]) (?_ : _ = bv (mBest S j (v + 1)))) rfl (ih (by omega))
            rw [show mBest S j (v + 1) = v + 1 by rw [mBest_s, hbb]; exact if_pos ⟨h_31, Or.inr h_45⟩]; rfl
  · refine pw_ldc hX cn_X4_40 dX4_newest_7 (q := 9) rfl ?_
    refine pw_ireturn hX dX4_newest_9 ⟨_, rfl, rfl⟩ ⟨congrArg (fun z => some (Value.int z)) ?_, ?_⟩
    · rw [mNewest, if_neg (by simp [h_4])]
    · rfl
abbrev rm_X4_unlike : Room := { frames := 4, cells := 0, slots := 0, locals := 90 }
set_option maxHeartbeats 4000000 in
set_option maxRecDepth 20000 in
theorem c_X4_unlike {l : Launch} {g : Geo} {w : WD} {V : Nat → Nat → Nat} {S : Nat → Nat} {v u : Int32} (hB : bS S) : CtI l g yX4_unlike cX4_unlike 5 (some .int) rm_X4_unlike [.ref (g_ad g 9 0), .int v, .int u] (mW w V S) (mUnlike S v u) (mW w V S) := by
  refine ct_of mi_X4_unlike.2.2.2.2.2 ⟨rfl, rfl⟩ (List.forall_mem_cons.mpr ⟨rfl, List.forall_mem_cons.mpr ⟨rfl, List.forall_mem_cons.mpr ⟨rfl, fun _ h => absurd h List.not_mem_nil⟩⟩⟩) (Nat.le_of_ble_eq_true rfl) (fun P hX => ?_)
  replace hX : Gd l g RX4 cX4_unlike rm_X4_unlike 5 (some .int) _ _ P := hX
  show P (mW w V S) 0 [some (.ref (g_ad g 9 0)), some (.int v), some (.int u), none, none] []
  have h7 := hB.2.2.1
  refine pw_aload_n hX rfl dX4_unlike_0 (q := 1) rfl ?_
  refine pw_iload_n hX rfl dX4_unlike_1 (q := 2) rfl ?_
  refine pw_cvI1 hX dX4_unlike_2 (q := 5) rfl mi_X4_isVillager ml_X4_53 rcM ⟨rfl, rfl, by decide, by decide⟩ rfl (Nat.le_of_ble_eq_true rfl) (c_X4_isVillager (by first | assumption | omega)) ?_
  refine pw_ifB_eq hX (tgt := 16) dX4_unlike_5 (q := 8) rfl (by decide) (fun h_5 => ?_) (fun h_5 => ?_)
  · refine pw_ldc hX cn_X4_40 dX4_unlike_16 (q := 18) rfl ?_
    refine pw_ireturn hX dX4_unlike_18 ⟨_, rfl, rfl⟩ ⟨congrArg (fun z => some (Value.int z)) ?_, ?_⟩
    · rw [mUnlike, if_neg (by rintro ⟨a1, a2⟩; simp_all)]
    · rfl
  · obtain ⟨i, hi, rfl⟩ := hasN_of (by have := hB.2.2.1; omega) h_5
    have hx : ix (nI i) = i := ix_nI (by have := hB.2.2.1; omega)
    have h7 := hB.2.2.1
    refine pw_aload_n hX rfl dX4_unlike_8 (q := 9) rfl ?_
    refine pw_iload_n hX rfl dX4_unlike_9 (q := 10) rfl ?_
    refine pw_cvI1 hX dX4_unlike_10 (q := 13) rfl mi_X4_isVillager ml_X4_53 rcM ⟨rfl, rfl, by decide, by decide⟩ rfl (Nat.le_of_ble_eq_true rfl) (c_X4_isVillager (by first | assumption | omega)) ?_
    refine pw_ifB_ne hX (tgt := 19) dX4_unlike_13 (q := 16) rfl (by decide) (fun h_13 => ?_) (fun h_13 => ?_)
    · obtain ⟨j, hj, rfl⟩ := hasN_of (by omega) h_13
      have hxj : ix (nI j) = j := ix_nI (by omega)
      refine pw_iconst hX (k := 0) rfl (by decide) dX4_unlike_19 (q := 20) rfl ?_
      refine pw_istore_n hX (by decide) dX4_unlike_20 (q := 21) rfl ?_
      refine pw_iconst hX (k := 0) rfl (by decide) dX4_unlike_21 (q := 22) rfl ?_
      refine pw_istore hX (by decide) dX4_unlike_22 (q := 24) rfl ?_
      suffices L : ∀ t, t ≤ 12 → P (mW w V S) 24 [some (.ref (g_ad g 9 0)), some (.int (nI i)), some (.int (nI j)), some (.int (nI (bits (fun t => !(mSame S i j t)) t))), some (.int (nI t))] [] by exact L 0 (Nat.zero_le _)
      refine loopUp (fun t ht ih => ?_)
      refine pw_iload hX rfl dX4_unlike_24 (q := 26) rfl ?_
      refine pw_bipush hX (k := 12) (by decide) dX4_unlike_26 (q := 28) rfl ?_
      refine pw_icmpN_ge hX (by first | omega | exact bS0 hB | exact bSw hB (by omega) (by omega) (by omega) | exact bSe hB (by omega) (by omega) | exact bS1 hB | exact bS2 hB) (by first | omega | exact bS0 hB | exact bSw hB (by omega) (by omega) (by omega) | exact bSe hB (by omega) (by omega) | exact bS1 hB | exact bS2 hB) (tgt := 59) dX4_unlike_28 (q := 31) rfl (by decide) (fun h_28 => ?_) (fun h_28 => ?_)
      · refine pw_iload_n hX rfl dX4_unlike_59 (q := 60) rfl ?_
        refine pw_ireturn hX dX4_unlike_60 ⟨_, rfl, rfl⟩ ⟨congrArg (fun z => some (Value.int z)) ?_, ?_⟩
        · rw [mUnlike, if_pos ⟨h_5, h_13⟩, hx, hxj, show t = 12 by omega]
        · rfl
      · refine pw_iload_n hX rfl dX4_unlike_31 (q := 32) rfl ?_
        refine pw_aload_n hX rfl dX4_unlike_32 (q := 33) rfl ?_
        refine pw_iload_n hX rfl dX4_unlike_33 (q := 34) rfl ?_
        refine pw_iload_n hX rfl dX4_unlike_34 (q := 35) rfl ?_
        refine pw_iload hX rfl dX4_unlike_35 (q := 37) rfl ?_
        refine pw_cvI3 hX dX4_unlike_37 (q := 40) rfl mi_X4_areSame ml_X4_111 rcM ⟨rfl, rfl, by decide, by decide⟩ rfl (Nat.le_of_ble_eq_true rfl) (c_X4_areSame (by first | assumption | omega) (by first | assumption | omega) (by first | assumption | omega) (by first | assumption | omega)) ?_
        refine pw_ifB_eq hX (tgt := 47) dX4_unlike_40 (q := 43) rfl (by decide) (fun h_40 => ?_) (fun h_40 => ?_)
        · refine pw_iconst hX (k := 1) rfl (by decide) dX4_unlike_47 (q := 48) rfl ?_
          refine pw_iload hX rfl dX4_unlike_48 (q := 50) rfl ?_
          refine pw_ishl1 hX (by omega) dX4_unlike_50 (q := 51) rfl ?_
          refine pw_iorN hX dX4_unlike_51 (q := 52) rfl ?_
          refine pw_istore_n hX (by decide) dX4_unlike_52 (q := 53) rfl ?_
          refine pw_iinc hX rfl (by decide) (inc1 _) dX4_unlike_53 (q := 56) rfl ?_
          refine pw_goto hX (tgt := 24) dX4_unlike_56 (by decide) ?_
          exact pw_eq rfl (by simp_all [lst, bits]) rfl (ih (by omega))
        · refine pw_iconst hX (k := 0) rfl (by decide) dX4_unlike_43 (q := 44) rfl ?_
          refine pw_goto hX (tgt := 51) dX4_unlike_44 (by decide) ?_
          refine pw_iorN hX dX4_unlike_51 (q := 52) rfl ?_
          refine pw_istore_n hX (by decide) dX4_unlike_52 (q := 53) rfl ?_
          refine pw_iinc hX rfl (by decide) (inc1 _) dX4_unlike_53 (q := 56) rfl ?_
          refine pw_goto hX (tgt := 24) dX4_unlike_56 (by decide) ?_
          exact pw_eq rfl (by simp_all [lst, bits]) rfl (ih (by omega))
    · refine pw_ldc hX cn_X4_40 dX4_unlike_16 (q := 18) rfl ?_
      refine pw_ireturn hX dX4_unlike_18 ⟨_, rfl, rfl⟩ ⟨congrArg (fun z => some (Value.int z)) ?_, ?_⟩
      · rw [mUnlike, if_neg (by rintro ⟨a1, a2⟩; simp_all)]
      · rfl
abbrev rm_X4_dead : Room := { frames := 3, cells := 0, slots := 0, locals := 66 }
set_option maxHeartbeats 4000000 in
set_option maxRecDepth 20000 in
theorem c_X4_dead {l : Launch} {g : Geo} {w : WD} {V : Nat → Nat → Nat} {S : Nat → Nat} {v : Int32} (hB : bS S) : CtI l g yX4_dead cX4_dead 4 (some .int) rm_X4_dead [.ref (g_ad g 9 0), .int v] (mW w V S) (mDeads S v) (mW w V S) := by
  refine ct_of mi_X4_dead.2.2.2.2.2 ⟨rfl, rfl⟩ (List.forall_mem_cons.mpr ⟨rfl, List.forall_mem_cons.mpr ⟨rfl, fun _ h => absurd h List.not_mem_nil⟩⟩) (Nat.le_of_ble_eq_true rfl) (fun P hX => ?_)
  replace hX : Gd l g RX4 cX4_dead rm_X4_dead 4 (some .int) _ _ P := hX
  show P (mW w V S) 0 [some (.ref (g_ad g 9 0)), some (.int v), none, none] []
  have h7 := hB.2.2.1
  refine pw_aload_n hX rfl dX4_dead_0 (q := 1) rfl ?_
  refine pw_iload_n hX rfl dX4_dead_1 (q := 2) rfl ?_
  refine pw_cvI1 hX dX4_dead_2 (q := 5) rfl mi_X4_isVillager ml_X4_53 rcM ⟨rfl, rfl, by decide, by decide⟩ rfl (Nat.le_of_ble_eq_true rfl) (c_X4_isVillager (by first | assumption | omega)) ?_
  refine pw_ifB_ne hX (tgt := 11) dX4_dead_5 (q := 8) rfl (by decide) (fun h_5 => ?_) (fun h_5 => ?_)
  · obtain ⟨i, hi, rfl⟩ := hasN_of (by have := hB.2.2.1; omega) h_5
    have hx : ix (nI i) = i := ix_nI (by have := hB.2.2.1; omega)
    have h7 := hB.2.2.1
    refine pw_iconst hX (k := 0) rfl (by decide) dX4_dead_11 (q := 12) rfl ?_
    refine pw_istore_n hX (by decide) dX4_dead_12 (q := 13) rfl ?_
    refine pw_iconst hX (k := 0) rfl (by decide) dX4_dead_13 (q := 14) rfl ?_
    refine pw_istore_n hX (by decide) dX4_dead_14 (q := 15) rfl ?_
    suffices L : ∀ t, t ≤ 12 → P (mW w V S) 15 [some (.ref (g_ad g 9 0)), some (.int (nI i)), some (.int (nI (bits (fun t => mDead S i t) t))), some (.int (nI t))] [] by exact L 0 (Nat.zero_le _)
    refine loopUp (fun t ht ih => ?_)
    refine pw_iload_n hX rfl dX4_dead_15 (q := 16) rfl ?_
    refine pw_bipush hX (k := 12) (by decide) dX4_dead_16 (q := 18) rfl ?_
    refine pw_icmpN_ge hX (by first | omega | exact bS0 hB | exact bSw hB (by omega) (by omega) (by omega) | exact bSe hB (by omega) (by omega) | exact bS1 hB | exact bS2 hB) (by first | omega | exact bS0 hB | exact bSw hB (by omega) (by omega) (by omega) | exact bSe hB (by omega) (by omega) | exact bS1 hB | exact bS2 hB) (tgt := 46) dX4_dead_18 (q := 21) rfl (by decide) (fun h_18 => ?_) (fun h_18 => ?_)
    · refine pw_iload_n hX rfl dX4_dead_46 (q := 47) rfl ?_
      refine pw_ireturn hX dX4_dead_47 ⟨_, rfl, rfl⟩ ⟨congrArg (fun z => some (Value.int z)) ?_, ?_⟩
      · rw [mDeads, if_pos h_5, hx, show t = 12 by omega]
      · rfl
    · refine pw_iload_n hX rfl dX4_dead_21 (q := 22) rfl ?_
      refine pw_aload_n hX rfl dX4_dead_22 (q := 23) rfl ?_
      refine pw_iload_n hX rfl dX4_dead_23 (q := 24) rfl ?_
      refine pw_iload_n hX rfl dX4_dead_24 (q := 25) rfl ?_
      refine pw_cvI2 hX dX4_dead_25 (q := 28) rfl mi_X4_isDead ml_X4_120 rcM ⟨rfl, rfl, by decide, by decide⟩ rfl (Nat.le_of_ble_eq_true rfl) (c_X4_isDead (by first | assumption | omega) (by first | assumption | omega) (by first | assumption | omega)) ?_
      refine pw_ifB_eq hX (tgt := 37) dX4_dead_28 (q := 31) rfl (by decide) (fun h_28 => ?_) (fun h_28 => ?_)
      · refine pw_iconst hX (k := 0) rfl (by decide) dX4_dead_37 (q := 38) rfl ?_
        refine pw_iorN hX dX4_dead_38 (q := 39) rfl ?_
        refine pw_istore_n hX (by decide) dX4_dead_39 (q := 40) rfl ?_
        refine pw_iinc hX rfl (by decide) (inc1 _) dX4_dead_40 (q := 43) rfl ?_
        refine pw_goto hX (tgt := 15) dX4_dead_43 (by decide) ?_
        exact pw_eq rfl (by simp_all [lst, bits]) rfl (ih (by omega))
      · refine pw_iconst hX (k := 1) rfl (by decide) dX4_dead_31 (q := 32) rfl ?_
        refine pw_iload_n hX rfl dX4_dead_32 (q := 33) rfl ?_
        refine pw_ishl1 hX (by omega) dX4_dead_33 (q := 34) rfl ?_
        refine pw_goto hX (tgt := 38) dX4_dead_34 (by decide) ?_
        refine pw_iorN hX dX4_dead_38 (q := 39) rfl ?_
        refine pw_istore_n hX (by decide) dX4_dead_39 (q := 40) rfl ?_
        refine pw_iinc hX rfl (by decide) (inc1 _) dX4_dead_40 (q := 43) rfl ?_
        refine pw_goto hX (tgt := 15) dX4_dead_43 (by decide) ?_
        exact pw_eq rfl (by simp_all [lst, bits]) rfl (ih (by omega))
  · refine pw_ldc hX cn_X4_40 dX4_dead_8 (q := 10) rfl ?_
    refine pw_ireturn hX dX4_dead_10 ⟨_, rfl, rfl⟩ ⟨congrArg (fun z => some (Value.int z)) ?_, ?_⟩
    · rw [mDeads, if_neg (by simp [h_5])]
    · rfl
