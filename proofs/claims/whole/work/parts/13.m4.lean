def mKind (S : Nat → Nat) (f t : Nat) : Nat := if S (225 + 84 * f + 7 * t + 0) = 2 then 0 else S (225 + 84 * f + 7 * t + 4)
def mMay (S : Nat → Nat) (f p t : Nat) : Bool := decide (mKind S f t = 0 ∨ (S (225 + 84 * f + 7 * t + 2) = f ∧ (mKind S f t = 1 ∨ f < p)))
def mGho (S : Nat → Nat) (f p t : Nat) : Bool := decide (S (225 + 84 * f + 7 * t + 0) = 1 ∧ mNewer (S (57 + 24 * p + 2 * t)) (S (57 + 24 * p + 2 * t + 1)) (S (225 + 84 * f + 7 * t + 1)) (S (225 + 84 * f + 7 * t + 2)) = true)
def cpE (S : Nat → Nat) (f p t n : Nat) : Nat → Nat := fun j => if 225 + 84 * p + 7 * t ≤ j ∧ j < 225 + 84 * p + 7 * t + n then S (225 + 84 * f + 7 * t + (j - (225 + 84 * p + 7 * t))) else S j
theorem cpE_0 (S : Nat → Nat) (f p t : Nat) : cpE S f p t 0 = S := funext (fun j => if_neg (by omega))
theorem cpE_r (S : Nat → Nat) {f p t n : Nat} (hn : n < 7) : cpE S f p t n (225 + 84 * f + 7 * t + n) = S (225 + 84 * f + 7 * t + n) := if_neg (by omega)
theorem cpE_s (S : Nat → Nat) {f p t n : Nat} (hn : n < 7) : upN (cpE S f p t n) (225 + 84 * p + 7 * t + n) (cpE S f p t n (225 + 84 * f + 7 * t + n)) = cpE S f p t (n + 1) := by
  rw [cpE_r S hn]
  funext j
  simp only [upN, cpE]
  by_cases h : j = 225 + 84 * p + 7 * t + n
  · rw [if_pos h, if_pos (by omega), h, show 225 + 84 * p + 7 * t + n - (225 + 84 * p + 7 * t) = n by omega]
  · rw [if_neg h]
    by_cases h2 : 225 + 84 * p + 7 * t ≤ j ∧ j < 225 + 84 * p + 7 * t + n
    · rw [if_pos h2, if_pos (by omega)]
    · rw [if_neg h2, if_neg (by omega)]
def mGh (S : Nat → Nat) (p : Nat) : Nat → Nat := upN (upN S (5 + 4 * p + 2) (S (5 + 4 * p + 2) + 1)) 3 (upN S (5 + 4 * p + 2) (S (5 + 4 * p + 2) + 1) 3 + 1)
def mPb (S : Nat → Nat) (f p t : Nat) : Bool := mHN S f p t && mMay S f p t
def mPs (S : Nat → Nat) (f p t : Nat) : Nat → Nat := if mPb S f p t = true then cpE (if mGho S f p t = true then mGh S p else S) f p t 7 else S
def mPr (S : Nat → Nat) (f p t : Nat) : Nat := if mPb S f p t = true then 1 else 0
theorem bS_g3 {S : Nat → Nat} (hB : bS S) (x : Nat) : bS (upN S 3 x) := by
  obtain ⟨h1, h2, h3, h4, h5⟩ := hB
  refine ⟨fun j a b => ?_, fun v k a b c => ?_, ?_, ?_, ?_⟩
  · rw [upN_n _ _ (by omega)]; exact h1 j a b
  · rw [upN_n _ _ (by omega)]; exact h2 v k a b c
  · rw [upN_n _ _ (by omega)]; exact h3
  · rw [upN_n _ _ (by omega)]; exact h4
  · rw [upN_n _ _ (by omega)]; exact h5
theorem bS_gm {S : Nat → Nat} (hB : bS S) {p : Nat} (hp : p < 7) (x : Nat) : bS (upN S (5 + 4 * p + 2) x) := by
  obtain ⟨h1, h2, h3, h4, h5⟩ := hB
  refine ⟨fun j a b => ?_, fun v k a b c => ?_, ?_, ?_, ?_⟩
  · rw [upN_n _ _ (by omega)]; exact h1 j a b
  · rw [upN_n _ _ (by omega)]; exact h2 v k a b c
  · rw [upN_n _ _ (by omega)]; exact h3
  · rw [upN_n _ _ (by omega)]; exact h4
  · rw [upN_n _ _ (by omega)]; exact h5
theorem bS_Gh {S : Nat → Nat} (hB : bS S) {p : Nat} (hp : p < 7) : bS (mGh S p) := bS_g3 (bS_gm hB hp _) _
theorem bS_cp {S : Nat → Nat} (hB : bS S) {f p t n : Nat} (hf : f < 7) (ht : t < 12) (hn : n ≤ 7) : bS (cpE S f p t n) := by
  obtain ⟨h1, h2, h3, h4, h5⟩ := hB
  refine ⟨fun j a b => ?_, fun v k a b c => ?_, ?_, ?_, ?_⟩
  · unfold cpE; split
    · exact h1 _ (by omega) (by omega)
    · exact h1 j a b
  · unfold cpE; rw [if_neg (by omega)]; exact h2 v k a b c
  · unfold cpE; rw [if_neg (by omega)]; exact h3
  · unfold cpE; rw [if_neg (by omega)]; exact h4
  · unfold cpE; rw [if_neg (by omega)]; exact h5
theorem bS_Ps {S : Nat → Nat} (hB : bS S) {f p t : Nat} (hf : f < 7) (hp : p < 7) (ht : t < 12) : bS (mPs S f p t) := by
  unfold mPs
  split
  · refine bS_cp ?_ hf ht (Nat.le_refl _)
    split
    · exact bS_Gh hB hp
    · exact hB
  · exact hB
def mSeen (S : Nat → Nat) (o p t : Nat) : Nat := S (225 + 84 * o + 7 * t + 6) ||| S (225 + 84 * p + 7 * t + 6) ||| 2 ^ o ||| 2 ^ p
def mSee (S : Nat → Nat) (o p t : Nat) : Nat → Nat := if S (225 + 84 * o + 7 * t + 0) = 2 ∧ S (225 + 84 * p + 7 * t + 0) = 2 ∧ mSame S o p t = true then upN (upN S (225 + 84 * o + 7 * t + 6) (mSeen S o p t)) (225 + 84 * p + 7 * t + 6) (mSeen S o p t) else S
theorem bS_See {S : Nat → Nat} (hB : bS S) {o p t : Nat} (ho : o < 7) (hp : p < 7) (ht : t < 12) : bS (mSee S o p t) := by
  unfold mSee
  split
  · have h : mSeen S o p t < 2 ^ 30 := by
      unfold mSeen
      refine Nat.or_lt_two_pow (Nat.or_lt_two_pow (Nat.or_lt_two_pow (hB.1 _ (by omega) (by omega)) (hB.1 _ (by omega) (by omega))) ?_) ?_
      · exact Nat.pow_lt_pow_right (by decide) (by omega)
      · exact Nat.pow_lt_pow_right (by decide) (by omega)
    exact bS_upN (bS_upN hB (by omega) h) (by omega) h
  · exact hB
/-- both ways of a topic's passing -/
def mP2s (S : Nat → Nat) (o p t : Nat) : Nat → Nat := if mPb S o p t = true then mPs S o p t else mPs S p o t
def mP2n (S : Nat → Nat) (o p t : Nat) : Nat := if mPb S o p t = true then 1 else mPr S p o t
def mMt (S : Nat → Nat) (o p : Nat) : Nat → (Nat → Nat) × Nat
  | 0 => (S, 0)
  | t + 1 => (mSee (mP2s (mMt S o p t).1 o p t) o p t, (mMt S o p t).2 + mP2n (mMt S o p t).1 o p t)
def mClk (S : Nat → Nat) (o p : Nat) : Nat := if S (5 + 4 * p + 1) < S (5 + 4 * o + 1) then S (5 + 4 * o + 1) else S (5 + 4 * p + 1)
def mMeet0 (S : Nat → Nat) (o p : Nat) : Nat → Nat := upN (upN S (5 + 4 * o + 1) (mClk S o p)) (5 + 4 * p + 1) (mClk S o p)
def mMeet (S : Nat → Nat) (o p : Nat) : (Nat → Nat) × Nat := mMt (mMeet0 S o p) o p 12
theorem bS_P2 {S : Nat → Nat} (hB : bS S) {o p t : Nat} (ho : o < 7) (hp : p < 7) (ht : t < 12) : bS (mP2s S o p t) := by
  unfold mP2s
  split
  · exact bS_Ps hB ho hp ht
  · exact bS_Ps hB hp ho ht
theorem bS_Mt {S : Nat → Nat} (hB : bS S) {o p : Nat} (ho : o < 7) (hp : p < 7) : ∀ t, t ≤ 12 → bS (mMt S o p t).1
  | 0, _ => hB
  | t + 1, ht => bS_See (bS_P2 (bS_Mt hB ho hp t (by omega)) ho hp (by omega)) ho hp (by omega)
theorem bS_Meet0 {S : Nat → Nat} (hB : bS S) {o p : Nat} (ho : o < 7) (hp : p < 7) : bS (mMeet0 S o p) := by
  have h1 := hB.2.1 o 1 ho (by decide) (by decide)
  have h2 := hB.2.1 p 1 hp (by decide) (by decide)
  have hc : mClk S o p < 2 ^ 30 := by unfold mClk; split <;> omega
  exact bS_upN (bS_upN hB (by omega) hc) (by omega) hc
theorem bS_Meet {S : Nat → Nat} (hB : bS S) {o p : Nat} (ho : o < 7) (hp : p < 7) : bS (mMeet S o p).1 := bS_Mt (bS_Meet0 hB ho hp) ho hp 12 (Nat.le_refl _)
theorem mMt_n (S : Nat → Nat) (o p : Nat) : ∀ t, (mMt S o p t).2 ≤ t
  | 0 => Nat.le_refl _
  | t + 1 => by
    have h := mMt_n S o p t
    have h2 : mP2n (mMt S o p t).1 o p t ≤ 1 := by
      unfold mP2n mPr
      split
      · omega
      · split <;> omega
    show (mMt S o p t).2 + mP2n (mMt S o p t).1 o p t ≤ t + 1
    omega
def mMeets1 (S : Nat → Nat) (v u : Int32) : (Nat → Nat) × Int32 := if hasN (S 0) v = true ∧ hasN (S 0) u = true ∧ v ≠ u then (if S (5 + 4 * ix v + 0) = 0 ∧ S (5 + 4 * ix u + 0) = 0 then ((mMeet S (ix v) (ix u)).1, nI (mMeet S (ix v) (ix u)).2) else (S, -1000002)) else (S, -1000001)
abbrev rm_X4_mayPass : Room := { frames := 2, cells := 0, slots := 0, locals := 44 }
set_option maxHeartbeats 4000000 in
set_option maxRecDepth 20000 in
theorem c_X4_mayPass {l : Launch} {g : Geo} {w : WD} {V : Nat → Nat → Nat} {S : Nat → Nat} {f p t : Nat} (hf : f < 7) (hp : p < 7) (ht : t < 12) (hB : bS S) : CtI l g yX4_mayPass cX4_mayPass 5 (some .boolean) rm_X4_mayPass [.ref (g_ad g 9 0), .int (nI f), .int (nI p), .int (nI t)] (mW w V S) (bI (mMay S f p t)) (mW w V S) := by
  refine ct_of mi_X4_mayPass.2.2.2.2.2 ⟨rfl, rfl⟩ (List.forall_mem_cons.mpr ⟨rfl, List.forall_mem_cons.mpr ⟨rfl, List.forall_mem_cons.mpr ⟨rfl, List.forall_mem_cons.mpr ⟨rfl, fun _ h => absurd h List.not_mem_nil⟩⟩⟩⟩) (Nat.le_of_ble_eq_true rfl) (fun P hX => ?_)
  replace hX : Gd l g RX4 cX4_mayPass rm_X4_mayPass 5 (some .boolean) _ _ P := hX
  show P (mW w V S) 0 [some (.ref (g_ad g 9 0)), some (.int (nI f)), some (.int (nI p)), some (.int (nI t)), none] []
  have h7 := hB.2.2.1
  refine pw_aload_n hX rfl dX4_mayPass_0 (q := 1) rfl ?_
  refine pw_iload_n hX rfl dX4_mayPass_1 (q := 2) rfl ?_
  refine pw_iload_n hX rfl dX4_mayPass_2 (q := 3) rfl ?_
  refine pw_iconst hX (k := 0) rfl (by decide) dX4_mayPass_3 (q := 4) rfl ?_
  refine pw_cvI3 hX dX4_mayPass_4 (q := 7) rfl mi_X4_en ml_X4_73 rcM ⟨rfl, rfl, by decide, by decide⟩ rfl (Nat.le_of_ble_eq_true rfl) (c_X4_en (by first | assumption | omega) (by first | assumption | omega) (by first | assumption | omega)) ?_
  refine pw_iconst hX (k := 2) rfl (by decide) dX4_mayPass_7 (q := 8) rfl ?_
  refine pw_icmpN_ne hX (by first | omega | exact bS0 hB | exact bSw hB (by omega) (by omega) (by omega) | exact bSe hB (by omega) (by omega) | exact bS1 hB | exact bS2 hB) (by first | omega | exact bS0 hB | exact bSw hB (by omega) (by omega) (by omega) | exact bSe hB (by omega) (by omega) | exact bS1 hB | exact bS2 hB) (tgt := 15) dX4_mayPass_8 (q := 11) rfl (by decide) (fun h_8 => ?_) (fun h_8 => ?_)
  · refine pw_aload_n hX rfl dX4_mayPass_15 (q := 16) rfl ?_
    refine pw_iload_n hX rfl dX4_mayPass_16 (q := 17) rfl ?_
    refine pw_iload_n hX rfl dX4_mayPass_17 (q := 18) rfl ?_
    refine pw_iconst hX (k := 4) rfl (by decide) dX4_mayPass_18 (q := 19) rfl ?_
    refine pw_cvI3 hX dX4_mayPass_19 (q := 22) rfl mi_X4_en ml_X4_73 rcM ⟨rfl, rfl, by decide, by decide⟩ rfl (Nat.le_of_ble_eq_true rfl) (c_X4_en (by first | assumption | omega) (by first | assumption | omega) (by first | assumption | omega)) ?_
    have hk : mKind S f t = S (225 + 84 * f + 7 * t + 4) := if_neg h_8
    refine pw_istore hX (by decide) dX4_mayPass_22 (q := 24) rfl ?_
    refine pw_iload hX rfl dX4_mayPass_24 (q := 26) rfl ?_
    refine pw_ifN_eq hX (by first | omega | exact bS0 hB | exact bSw hB (by omega) (by omega) (by omega) | exact bSe hB (by omega) (by omega) | exact bS1 hB | exact bS2 hB) (tgt := 51) dX4_mayPass_26 (q := 29) rfl (by decide) (fun h_26 => ?_) (fun h_26 => ?_)
    · refine pw_iconst hX (k := 1) rfl (by decide) dX4_mayPass_51 (q := 52) rfl ?_
      refine pw_goto hX (tgt := 56) dX4_mayPass_52 (by decide) ?_
      refine pw_ireturn hX dX4_mayPass_56 ⟨_, rfl, by first | exact bI_nar _ | decide | rfl⟩ ⟨congrArg (fun z => some (Value.int z)) ?_, ?_⟩
      · first | (rw [show mMay S f p t = true from decide_eq_true (by first | omega | simp_all)]; rfl) | (rw [show mMay S f p t = false from decide_eq_false (by first | omega | simp_all)]; rfl)
      · rfl
    · refine pw_aload_n hX rfl dX4_mayPass_29 (q := 30) rfl ?_
      refine pw_iload_n hX rfl dX4_mayPass_30 (q := 31) rfl ?_
      refine pw_iload_n hX rfl dX4_mayPass_31 (q := 32) rfl ?_
      refine pw_iconst hX (k := 2) rfl (by decide) dX4_mayPass_32 (q := 33) rfl ?_
      refine pw_cvI3 hX dX4_mayPass_33 (q := 36) rfl mi_X4_en ml_X4_73 rcM ⟨rfl, rfl, by decide, by decide⟩ rfl (Nat.le_of_ble_eq_true rfl) (c_X4_en (by first | assumption | omega) (by first | assumption | omega) (by first | assumption | omega)) ?_
      refine pw_iload_n hX rfl dX4_mayPass_36 (q := 37) rfl ?_
      refine pw_icmpN_ne hX (by first | omega | exact bS0 hB | exact bSw hB (by omega) (by omega) (by omega) | exact bSe hB (by omega) (by omega) | exact bS1 hB | exact bS2 hB) (by first | omega | exact bS0 hB | exact bSw hB (by omega) (by omega) (by omega) | exact bSe hB (by omega) (by omega) | exact bS1 hB | exact bS2 hB) (tgt := 55) dX4_mayPass_37 (q := 40) rfl (by decide) (fun h_37 => ?_) (fun h_37 => ?_)
      · refine pw_iconst hX (k := 0) rfl (by decide) dX4_mayPass_55 (q := 56) rfl ?_
        refine pw_ireturn hX dX4_mayPass_56 ⟨_, rfl, by first | exact bI_nar _ | decide | rfl⟩ ⟨congrArg (fun z => some (Value.int z)) ?_, ?_⟩
        · first | (rw [show mMay S f p t = true from decide_eq_true (by first | omega | simp_all)]; rfl) | (rw [show mMay S f p t = false from decide_eq_false (by first | omega | simp_all)]; rfl)
        · rfl
      · refine pw_iload hX rfl dX4_mayPass_40 (q := 42) rfl ?_
        refine pw_iconst hX (k := 1) rfl (by decide) dX4_mayPass_42 (q := 43) rfl ?_
        refine pw_icmpN_eq hX (by first | omega | exact bS0 hB | exact bSw hB (by omega) (by omega) (by omega) | exact bSe hB (by omega) (by omega) | exact bS1 hB | exact bS2 hB) (by first | omega | exact bS0 hB | exact bSw hB (by omega) (by omega) (by omega) | exact bSe hB (by omega) (by omega) | exact bS1 hB | exact bS2 hB) (tgt := 51) dX4_mayPass_43 (q := 46) rfl (by decide) (fun h_43 => ?_) (fun h_43 => ?_)
        · refine pw_iconst hX (k := 1) rfl (by decide) dX4_mayPass_51 (q := 52) rfl ?_
          refine pw_goto hX (tgt := 56) dX4_mayPass_52 (by decide) ?_
          refine pw_ireturn hX dX4_mayPass_56 ⟨_, rfl, by first | exact bI_nar _ | decide | rfl⟩ ⟨congrArg (fun z => some (Value.int z)) ?_, ?_⟩
          · first | (rw [show mMay S f p t = true from decide_eq_true (by first | omega | simp_all)]; rfl) | (rw [show mMay S f p t = false from decide_eq_false (by first | omega | simp_all)]; rfl)
          · rfl
        · refine pw_iload_n hX rfl dX4_mayPass_46 (q := 47) rfl ?_
          refine pw_iload_n hX rfl dX4_mayPass_47 (q := 48) rfl ?_
          refine pw_icmpN_le hX (by first | omega | exact bS0 hB | exact bSw hB (by omega) (by omega) (by omega) | exact bSe hB (by omega) (by omega) | exact bS1 hB | exact bS2 hB) (by first | omega | exact bS0 hB | exact bSw hB (by omega) (by omega) (by omega) | exact bSe hB (by omega) (by omega) | exact bS1 hB | exact bS2 hB) (tgt := 55) dX4_mayPass_48 (q := 51) rfl (by decide) (fun h_48 => ?_) (fun h_48 => ?_)
          · refine pw_iconst hX (k := 0) rfl (by decide) dX4_mayPass_55 (q := 56) rfl ?_
            refine pw_ireturn hX dX4_mayPass_56 ⟨_, rfl, by first | exact bI_nar _ | decide | rfl⟩ ⟨congrArg (fun z => some (Value.int z)) ?_, ?_⟩
            · first | (rw [show mMay S f p t = true from decide_eq_true (by first | omega | simp_all)]; rfl) | (rw [show mMay S f p t = false from decide_eq_false (by first | omega | simp_all)]; rfl)
            · rfl
          · refine pw_iconst hX (k := 1) rfl (by decide) dX4_mayPass_51 (q := 52) rfl ?_
            refine pw_goto hX (tgt := 56) dX4_mayPass_52 (by decide) ?_
            refine pw_ireturn hX dX4_mayPass_56 ⟨_, rfl, by first | exact bI_nar _ | decide | rfl⟩ ⟨congrArg (fun z => some (Value.int z)) ?_, ?_⟩
            · first | (rw [show mMay S f p t = true from decide_eq_true (by first | omega | simp_all)]; rfl) | (rw [show mMay S f p t = false from decide_eq_false (by first | omega | simp_all)]; rfl)
            · rfl
  · refine pw_iconst hX (k := 0) rfl (by decide) dX4_mayPass_11 (q := 12) rfl ?_
    refine pw_goto hX (tgt := 22) dX4_mayPass_12 (by decide) ?_
    have hk : mKind S f t = 0 := if_pos h_8
    refine pw_istore hX (by decide) dX4_mayPass_22 (q := 24) rfl ?_
    refine pw_iload hX rfl dX4_mayPass_24 (q := 26) rfl ?_
    refine pw_ifN_eq hX (by first | omega | exact bS0 hB | exact bSw hB (by omega) (by omega) (by omega) | exact bSe hB (by omega) (by omega) | exact bS1 hB | exact bS2 hB) (tgt := 51) dX4_mayPass_26 (q := 29) rfl (by decide) (fun h_26 => ?_) (fun h_26 => ?_)
    · refine pw_iconst hX (k := 1) rfl (by decide) dX4_mayPass_51 (q := 52) rfl ?_
      refine pw_goto hX (tgt := 56) dX4_mayPass_52 (by decide) ?_
      refine pw_ireturn hX dX4_mayPass_56 ⟨_, rfl, by first | exact bI_nar _ | decide | rfl⟩ ⟨congrArg (fun z => some (Value.int z)) ?_, ?_⟩
      · first | (rw [show mMay S f p t = true from decide_eq_true (by first | omega | simp_all)]; rfl) | (rw [show mMay S f p t = false from decide_eq_false (by first | omega | simp_all)]; rfl)
      · rfl
    · refine pw_aload_n hX rfl dX4_mayPass_29 (q := 30) rfl ?_
      refine pw_iload_n hX rfl dX4_mayPass_30 (q := 31) rfl ?_
      refine pw_iload_n hX rfl dX4_mayPass_31 (q := 32) rfl ?_
      refine pw_iconst hX (k := 2) rfl (by decide) dX4_mayPass_32 (q := 33) rfl ?_
      refine pw_cvI3 hX dX4_mayPass_33 (q := 36) rfl mi_X4_en ml_X4_73 rcM ⟨rfl, rfl, by decide, by decide⟩ rfl (Nat.le_of_ble_eq_true rfl) (c_X4_en (by first | assumption | omega) (by first | assumption | omega) (by first | assumption | omega)) ?_
      refine pw_iload_n hX rfl dX4_mayPass_36 (q := 37) rfl ?_
      refine pw_icmpN_ne hX (by first | omega | exact bS0 hB | exact bSw hB (by omega) (by omega) (by omega) | exact bSe hB (by omega) (by omega) | exact bS1 hB | exact bS2 hB) (by first | omega | exact bS0 hB | exact bSw hB (by omega) (by omega) (by omega) | exact bSe hB (by omega) (by omega) | exact bS1 hB | exact bS2 hB) (tgt := 55) dX4_mayPass_37 (q := 40) rfl (by decide) (fun h_37 => ?_) (fun h_37 => ?_)
      · refine pw_iconst hX (k := 0) rfl (by decide) dX4_mayPass_55 (q := 56) rfl ?_
        refine pw_ireturn hX dX4_mayPass_56 ⟨_, rfl, by first | exact bI_nar _ | decide | rfl⟩ ⟨congrArg (fun z => some (Value.int z)) ?_, ?_⟩
        · first | (rw [show mMay S f p t = true from decide_eq_true (by first | omega | simp_all)]; rfl) | (rw [show mMay S f p t = false from decide_eq_false (by first | omega | simp_all)]; rfl)
        · rfl
      · refine pw_iload hX rfl dX4_mayPass_40 (q := 42) rfl ?_
        refine pw_iconst hX (k := 1) rfl (by decide) dX4_mayPass_42 (q := 43) rfl ?_
        refine pw_icmpN_eq hX (by first | omega | exact bS0 hB | exact bSw hB (by omega) (by omega) (by omega) | exact bSe hB (by omega) (by omega) | exact bS1 hB | exact bS2 hB) (by first | omega | exact bS0 hB | exact bSw hB (by omega) (by omega) (by omega) | exact bSe hB (by omega) (by omega) | exact bS1 hB | exact bS2 hB) (tgt := 51) dX4_mayPass_43 (q := 46) rfl (by decide) (fun h_43 => ?_) (fun h_43 => ?_)
        · refine pw_iconst hX (k := 1) rfl (by decide) dX4_mayPass_51 (q := 52) rfl ?_
          refine pw_goto hX (tgt := 56) dX4_mayPass_52 (by decide) ?_
          refine pw_ireturn hX dX4_mayPass_56 ⟨_, rfl, by first | exact bI_nar _ | decide | rfl⟩ ⟨congrArg (fun z => some (Value.int z)) ?_, ?_⟩
          · first | (rw [show mMay S f p t = true from decide_eq_true (by first | omega | simp_all)]; rfl) | (rw [show mMay S f p t = false from decide_eq_false (by first | omega | simp_all)]; rfl)
          · rfl
        · refine pw_iload_n hX rfl dX4_mayPass_46 (q := 47) rfl ?_
          refine pw_iload_n hX rfl dX4_mayPass_47 (q := 48) rfl ?_
          refine pw_icmpN_le hX (by first | omega | exact bS0 hB | exact bSw hB (by omega) (by omega) (by omega) | exact bSe hB (by omega) (by omega) | exact bS1 hB | exact bS2 hB) (by first | omega | exact bS0 hB | exact bSw hB (by omega) (by omega) (by omega) | exact bSe hB (by omega) (by omega) | exact bS1 hB | exact bS2 hB) (tgt := 55) dX4_mayPass_48 (q := 51) rfl (by decide) (fun h_48 => ?_) (fun h_48 => ?_)
          · refine pw_iconst hX (k := 0) rfl (by decide) dX4_mayPass_55 (q := 56) rfl ?_
            refine pw_ireturn hX dX4_mayPass_56 ⟨_, rfl, by first | exact bI_nar _ | decide | rfl⟩ ⟨congrArg (fun z => some (Value.int z)) ?_, ?_⟩
            · first | (rw [show mMay S f p t = true from decide_eq_true (by first | omega | simp_all)]; rfl) | (rw [show mMay S f p t = false from decide_eq_false (by first | omega | simp_all)]; rfl)
            · rfl
          · refine pw_iconst hX (k := 1) rfl (by decide) dX4_mayPass_51 (q := 52) rfl ?_
            refine pw_goto hX (tgt := 56) dX4_mayPass_52 (by decide) ?_
            refine pw_ireturn hX dX4_mayPass_56 ⟨_, rfl, by first | exact bI_nar _ | decide | rfl⟩ ⟨congrArg (fun z => some (Value.int z)) ?_, ?_⟩
            · first | (rw [show mMay S f p t = true from decide_eq_true (by first | omega | simp_all)]; rfl) | (rw [show mMay S f p t = false from decide_eq_false (by first | omega | simp_all)]; rfl)
            · rfl
abbrev rm_X4_isGhost : Room := { frames := 2, cells := 0, slots := 0, locals := 44 }
set_option maxHeartbeats 4000000 in
set_option maxRecDepth 20000 in
theorem c_X4_isGhost {l : Launch} {g : Geo} {w : WD} {V : Nat → Nat → Nat} {S : Nat → Nat} {f p t : Nat} (hf : f < 7) (hp : p < 7) (ht : t < 12) (hB : bS S) : CtI l g yX4_isGhost cX4_isGhost 5 (some .boolean) rm_X4_isGhost [.ref (g_ad g 9 0), .int (nI f), .int (nI p), .int (nI t)] (mW w V S) (bI (mGho S f p t)) (mW w V S) := by
  refine ct_of mi_X4_isGhost.2.2.2.2.2 ⟨rfl, rfl⟩ (List.forall_mem_cons.mpr ⟨rfl, List.forall_mem_cons.mpr ⟨rfl, List.forall_mem_cons.mpr ⟨rfl, List.forall_mem_cons.mpr ⟨rfl, fun _ h => absurd h List.not_mem_nil⟩⟩⟩⟩) (Nat.le_of_ble_eq_true rfl) (fun P hX => ?_)
  replace hX : Gd l g RX4 cX4_isGhost rm_X4_isGhost 5 (some .boolean) _ _ P := hX
  show P (mW w V S) 0 [some (.ref (g_ad g 9 0)), some (.int (nI f)), some (.int (nI p)), some (.int (nI t)), none] []
  have h7 := hB.2.2.1
  refine pw_bipush hX (k := 57) (by decide) dX4_isGhost_0 (q := 2) rfl ?_
  refine pw_bipush hX (k := 24) (by decide) dX4_isGhost_2 (q := 4) rfl ?_
  refine pw_iload_n hX rfl dX4_isGhost_4 (q := 5) rfl ?_
  refine pw_imulN hX dX4_isGhost_5 (q := 6) rfl ?_
  refine pw_iaddN hX dX4_isGhost_6 (q := 7) rfl ?_
  refine pw_iconst hX (k := 2) rfl (by decide) dX4_isGhost_7 (q := 8) rfl ?_
  refine pw_iload_n hX rfl dX4_isGhost_8 (q := 9) rfl ?_
  refine pw_imulN hX dX4_isGhost_9 (q := 10) rfl ?_
  refine pw_iaddN hX dX4_isGhost_10 (q := 11) rfl ?_
  refine pw_istore hX (by decide) dX4_isGhost_11 (q := 13) rfl ?_
  refine pw_aload_n hX rfl dX4_isGhost_13 (q := 14) rfl ?_
  refine pw_iload_n hX rfl dX4_isGhost_14 (q := 15) rfl ?_
  refine pw_iload_n hX rfl dX4_isGhost_15 (q := 16) rfl ?_
  refine pw_iconst hX (k := 0) rfl (by decide) dX4_isGhost_16 (q := 17) rfl ?_
  refine pw_cvI3 hX dX4_isGhost_17 (q := 20) rfl mi_X4_en ml_X4_73 rcM ⟨rfl, rfl, by decide, by decide⟩ rfl (Nat.le_of_ble_eq_true rfl) (c_X4_en (by first | assumption | omega) (by first | assumption | omega) (by first | assumption | omega)) ?_
  refine pw_iconst hX (k := 1) rfl (by decide) dX4_isGhost_20 (q := 21) rfl ?_
  refine pw_icmpN_ne hX (by first | omega | exact bS0 hB | exact bSw hB (by omega) (by omega) (by omega) | exact bSe hB (by omega) (by omega) | exact bS1 hB | exact bS2 hB) (by first | omega | exact bS0 hB | exact bSw hB (by omega) (by omega) (by omega) | exact bSe hB (by omega) (by omega) | exact bS1 hB | exact bS2 hB) (tgt := 64) dX4_isGhost_21 (q := 24) rfl (by decide) (fun h_21 => ?_) (fun h_21 => ?_)
  · refine pw_iconst hX (k := 0) rfl (by decide) dX4_isGhost_64 (q := 65) rfl ?_
    refine pw_ireturn hX dX4_isGhost_65 ⟨_, rfl, by first | exact bI_nar _ | decide | rfl⟩ ⟨congrArg (fun z => some (Value.int z)) ?_, ?_⟩
    · first | (rw [show mGho S f p t = false from decide_eq_false (fun z => h_21 z.1)]; rfl) | (rw [show mGho S f p t = true from decide_eq_true ⟨h_21, h_57⟩]; rfl) | (rw [show mGho S f p t = false from decide_eq_false (fun z => by simp [h_57] at z)]; rfl)
    · rfl
  · refine pw_aload_n hX rfl dX4_isGhost_24 (q := 25) rfl ?_
    refine pw_getMS hX 0 (by decide) fl_X4_7 rfl dX4_isGhost_25 (q := 28) rfl ?_
    refine pw_iload hX rfl dX4_isGhost_28 (q := 30) rfl ?_
    refine pw_ialdS hX (by omega) dX4_isGhost_30 (q := 31) rfl ?_
    refine pw_aload_n hX rfl dX4_isGhost_31 (q := 32) rfl ?_
    refine pw_getMS hX 0 (by decide) fl_X4_7 rfl dX4_isGhost_32 (q := 35) rfl ?_
    refine pw_iload hX rfl dX4_isGhost_35 (q := 37) rfl ?_
    refine pw_iconst hX (k := 1) rfl (by decide) dX4_isGhost_37 (q := 38) rfl ?_
    refine pw_iaddN hX dX4_isGhost_38 (q := 39) rfl ?_
    refine pw_ialdS hX (by omega) dX4_isGhost_39 (q := 40) rfl ?_
    refine pw_aload_n hX rfl dX4_isGhost_40 (q := 41) rfl ?_
    refine pw_iload_n hX rfl dX4_isGhost_41 (q := 42) rfl ?_
    refine pw_iload_n hX rfl dX4_isGhost_42 (q := 43) rfl ?_
    refine pw_iconst hX (k := 1) rfl (by decide) dX4_isGhost_43 (q := 44) rfl ?_
    refine pw_cvI3 hX dX4_isGhost_44 (q := 47) rfl mi_X4_en ml_X4_73 rcM ⟨rfl, rfl, by decide, by decide⟩ rfl (Nat.le_of_ble_eq_true rfl) (c_X4_en (by first | assumption | omega) (by first | assumption | omega) (by first | assumption | omega)) ?_
    refine pw_aload_n hX rfl dX4_isGhost_47 (q := 48) rfl ?_
    refine pw_iload_n hX rfl dX4_isGhost_48 (q := 49) rfl ?_
    refine pw_iload_n hX rfl dX4_isGhost_49 (q := 50) rfl ?_
    refine pw_iconst hX (k := 2) rfl (by decide) dX4_isGhost_50 (q := 51) rfl ?_
    refine pw_cvI3 hX dX4_isGhost_51 (q := 54) rfl mi_X4_en ml_X4_73 rcM ⟨rfl, rfl, by decide, by decide⟩ rfl (Nat.le_of_ble_eq_true rfl) (c_X4_en (by first | assumption | omega) (by first | assumption | omega) (by first | assumption | omega)) ?_
    refine pw_csI4 hX dX4_isGhost_54 (q := 57) rfl mi_X4_isNewer ml_X4_81 ⟨rfl, rfl, by decide, by decide⟩ rfl (Nat.le_of_ble_eq_true rfl) (c_X4_isNewer (bSe hB (by omega) (by omega)) (bSe hB (by omega) (by omega)) (bSe hB (by omega) (by omega)) (bSe hB (by omega) (by omega))) ?_
    refine pw_ifB_eq hX (tgt := 64) dX4_isGhost_57 (q := 60) rfl (by decide) (fun h_57 => ?_) (fun h_57 => ?_)
    · refine pw_iconst hX (k := 0) rfl (by decide) dX4_isGhost_64 (q := 65) rfl ?_
      refine pw_ireturn hX dX4_isGhost_65 ⟨_, rfl, by first | exact bI_nar _ | decide | rfl⟩ ⟨congrArg (fun z => some (Value.int z)) ?_, ?_⟩
      · first | (rw [show mGho S f p t = false from decide_eq_false (fun z => h_21 z.1)]; rfl) | (rw [show mGho S f p t = true from decide_eq_true ⟨h_21, h_57⟩]; rfl) | (rw [show mGho S f p t = false from decide_eq_false (fun z => by simp [h_57] at z)]; rfl)
      · rfl
    · refine pw_iconst hX (k := 1) rfl (by decide) dX4_isGhost_60 (q := 61) rfl ?_
      refine pw_goto hX (tgt := 65) dX4_isGhost_61 (by decide) ?_
      refine pw_ireturn hX dX4_isGhost_65 ⟨_, rfl, by first | exact bI_nar _ | decide | rfl⟩ ⟨congrArg (fun z => some (Value.int z)) ?_, ?_⟩
      · first | (rw [show mGho S f p t = false from decide_eq_false (fun z => h_21 z.1)]; rfl) | (rw [show mGho S f p t = true from decide_eq_true ⟨h_21, h_57⟩]; rfl) | (rw [show mGho S f p t = false from decide_eq_false (fun z => by simp [h_57] at z)]; rfl)
      · rfl
abbrev rm_X4_passes : Room := { frames := 3, cells := 0, slots := 0, locals := 68 }
set_option maxHeartbeats 4000000 in
set_option maxRecDepth 20000 in
theorem c_X4_passes {l : Launch} {g : Geo} {w : WD} {V : Nat → Nat → Nat} {S : Nat → Nat} {f p t : Nat} (hf : f < 7) (hp : p < 7) (ht : t < 12) (hB : bS S) : CtI l g yX4_passes cX4_passes 5 (some .int) rm_X4_passes [.ref (g_ad g 9 0), .int (nI f), .int (nI p), .int (nI t)] (mW w V S) (nI (mPr S f p t)) (mW w V (mPs S f p t)) := by
  refine ct_of mi_X4_passes.2.2.2.2.2 ⟨rfl, rfl⟩ (List.forall_mem_cons.mpr ⟨rfl, List.forall_mem_cons.mpr ⟨rfl, List.forall_mem_cons.mpr ⟨rfl, List.forall_mem_cons.mpr ⟨rfl, fun _ h => absurd h List.not_mem_nil⟩⟩⟩⟩) (Nat.le_of_ble_eq_true rfl) (fun P hX => ?_)
  replace hX : Gd l g RX4 cX4_passes rm_X4_passes 5 (some .int) _ _ P := hX
  show P (mW w V S) 0 [some (.ref (g_ad g 9 0)), some (.int (nI f)), some (.int (nI p)), some (.int (nI t)), none] []
  have h7 := hB.2.2.1
  refine pw_aload_n hX rfl dX4_passes_0 (q := 1) rfl ?_
  refine pw_iload_n hX rfl dX4_passes_1 (q := 2) rfl ?_
  refine pw_iload_n hX rfl dX4_passes_2 (q := 3) rfl ?_
  refine pw_iload_n hX rfl dX4_passes_3 (q := 4) rfl ?_
  refine pw_cvI3 hX dX4_passes_4 (q := 7) rfl mi_X4_hasNewer ml_X4_85 rcM ⟨rfl, rfl, by decide, by decide⟩ rfl (Nat.le_of_ble_eq_true rfl) (c_X4_hasNewer (by first | assumption | omega) (by first | assumption | omega) (by first | assumption | omega) (by first | assumption | omega)) ?_
  refine pw_ifB_eq hX (tgt := 20) dX4_passes_7 (q := 10) rfl (by decide) (fun h_7 => ?_) (fun h_7 => ?_)
  · refine pw_iconst hX (k := 0) rfl (by decide) dX4_passes_20 (q := 21) rfl ?_
    refine pw_ireturn hX dX4_passes_21 ⟨_, rfl, rfl⟩ ⟨congrArg (fun z => some (Value.int z)) ?_, ?_⟩
    · unfold mPr mPb; first | (rw [h_7]; rfl) | (rw [h_7, h_17]; rfl)
    · unfold mPs mPb; first | (rw [h_7]; rfl) | (rw [h_7, h_17]; rfl)
  · refine pw_aload_n hX rfl dX4_passes_10 (q := 11) rfl ?_
    refine pw_iload_n hX rfl dX4_passes_11 (q := 12) rfl ?_
    refine pw_iload_n hX rfl dX4_passes_12 (q := 13) rfl ?_
    refine pw_iload_n hX rfl dX4_passes_13 (q := 14) rfl ?_
    refine pw_cvI3 hX dX4_passes_14 (q := 17) rfl mi_X4_mayPass ml_X4_102 rcM ⟨rfl, rfl, by decide, by decide⟩ rfl (Nat.le_of_ble_eq_true rfl) (c_X4_mayPass (by first | assumption | omega) (by first | assumption | omega) (by first | assumption | omega) (by first | assumption | omega)) ?_
    refine pw_ifB_ne hX (tgt := 22) dX4_passes_17 (q := 20) rfl (by decide) (fun h_17 => ?_) (fun h_17 => ?_)
    · refine pw_aload_n hX rfl dX4_passes_22 (q := 23) rfl ?_
      refine pw_iload_n hX rfl dX4_passes_23 (q := 24) rfl ?_
      refine pw_iload_n hX rfl dX4_passes_24 (q := 25) rfl ?_
      refine pw_iload_n hX rfl dX4_passes_25 (q := 26) rfl ?_
      refine pw_cvI3 hX dX4_passes_26 (q := 29) rfl mi_X4_isGhost ml_X4_105 rcM ⟨rfl, rfl, by decide, by decide⟩ rfl (Nat.le_of_ble_eq_true rfl) (c_X4_isGhost (by first | assumption | omega) (by first | assumption | omega) (by first | assumption | omega) (by first | assumption | omega)) ?_
      refine jn (A := ∀ S1 : Nat → Nat, S1 = (if mGho S f p t = true then mGh S p else S) → P (mW w V S1) 58 [some (.ref (g_ad g 9 0)), some (.int (nI f)), some (.int (nI p)), some (.int (nI t)), none] []) ?_ (fun J29 => ?_)
      · intro S1 hS1
        refine pw_iconst hX (k := 0) rfl (by decide) dX4_passes_58 (q := 59) rfl ?_
        refine pw_istore hX (by decide) dX4_passes_59 (q := 61) rfl ?_
        suffices L : ∀ i, i ≤ 7 → P (mW w V (cpE S1 f p t i)) 61 [some (.ref (g_ad g 9 0)), some (.int (nI f)), some (.int (nI p)), some (.int (nI t)), some (.int (nI i))] [] by have h9 := L 0 (Nat.zero_le _); rw [cpE_0] at h9; exact h9
        refine loopUp (fun i hi ih => ?_)
        refine pw_iload hX rfl dX4_passes_61 (q := 63) rfl ?_
        refine pw_bipush hX (k := 7) (by decide) dX4_passes_63 (q := 65) rfl ?_
        refine pw_icmpN_ge hX (by first | omega | exact bS0 hB | exact bSw hB (by omega) (by omega) (by omega) | exact bSe hB (by omega) (by omega) | exact bS1 hB | exact bS2 hB) (by first | omega | exact bS0 hB | exact bSw hB (by omega) (by omega) (by omega) | exact bSe hB (by omega) (by omega) | exact bS1 hB | exact bS2 hB) (tgt := 95) dX4_passes_65 (q := 68) rfl (by decide) (fun h_65 => ?_) (fun h_65 => ?_)
        · refine pw_iconst hX (k := 1) rfl (by decide) dX4_passes_95 (q := 96) rfl ?_
          refine pw_ireturn hX dX4_passes_96 ⟨_, rfl, rfl⟩ ⟨congrArg (fun z => some (Value.int z)) ?_, ?_⟩
          · unfold mPr mPb; rw [h_7, h_17]; rfl
          · rw [show i = 7 by omega, hS1]; unfold mPs mPb; rw [h_7, h_17]; rfl
        · refine pw_aload_n hX rfl dX4_passes_68 (q := 69) rfl ?_
          refine pw_getMS hX 0 (by decide) fl_X4_7 rfl dX4_passes_69 (q := 72) rfl ?_
          refine pw_iload_n hX rfl dX4_passes_72 (q := 73) rfl ?_
          refine pw_iload_n hX rfl dX4_passes_73 (q := 74) rfl ?_
          refine pw_csI2 hX dX4_passes_74 (q := 77) rfl mi_X4_place ml_X4_29 ⟨rfl, rfl, by decide, by decide⟩ rfl (Nat.le_of_ble_eq_true rfl) (c_X4_place) ?_
          refine pw_iload hX rfl dX4_passes_77 (q := 79) rfl ?_
          refine pw_iaddN hX dX4_passes_79 (q := 80) rfl ?_
          refine pw_aload_n hX rfl dX4_passes_80 (q := 81) rfl ?_
          refine pw_iload_n hX rfl dX4_passes_81 (q := 82) rfl ?_
          refine pw_iload_n hX rfl dX4_passes_82 (q := 83) rfl ?_
          refine pw_iload hX rfl dX4_passes_83 (q := 85) rfl ?_
          refine pw_cvI3 hX dX4_passes_85 (q := 88) rfl mi_X4_en ml_X4_73 rcM ⟨rfl, rfl, by decide, by decide⟩ rfl (Nat.le_of_ble_eq_true rfl) (c_X4_en (by first | assumption | omega) (by first | assumption | omega) (by first | assumption | omega)) ?_
          refine pw_iastS hX (by omega) dX4_passes_88 (q := 89) rfl ?_
          refine pw_iinc hX rfl (by decide) (inc1 _) dX4_passes_89 (q := 92) rfl ?_
          refine pw_goto hX (tgt := 61) dX4_passes_92 (by decide) ?_
          exact pw_eq (by rw [cpE_s _ (by omega)]) rfl rfl (ih (by omega))
      · refine pw_ifB_eq hX (tgt := 58) dX4_passes_29 (q := 32) rfl (by decide) (fun h_29 => ?_) (fun h_29 => ?_)
        · exact J29 _ (by first | (rw [if_neg (by simp [h_29])]; done) | (rw [if_pos h_29]; rfl))
        · refine pw_aload_n hX rfl dX4_passes_32 (q := 33) rfl ?_
          refine pw_getMS hX 0 (by decide) fl_X4_7 rfl dX4_passes_33 (q := 36) rfl ?_
          refine pw_iconst hX (k := 5) rfl (by decide) dX4_passes_36 (q := 37) rfl ?_
          refine pw_iconst hX (k := 4) rfl (by decide) dX4_passes_37 (q := 38) rfl ?_
          refine pw_iload_n hX rfl dX4_passes_38 (q := 39) rfl ?_
          refine pw_imulN hX dX4_passes_39 (q := 40) rfl ?_
          refine pw_iaddN hX dX4_passes_40 (q := 41) rfl ?_
          refine pw_iconst hX (k := 2) rfl (by decide) dX4_passes_41 (q := 42) rfl ?_
          refine pw_iaddN hX dX4_passes_42 (q := 43) rfl ?_
          refine pw_dup2 hX rfl rfl dX4_passes_43 (q := 44) rfl ?_
          refine pw_ialdS hX (by omega) dX4_passes_44 (q := 45) rfl ?_
          refine pw_iconst hX (k := 1) rfl (by decide) dX4_passes_45 (q := 46) rfl ?_
          refine pw_iaddN hX dX4_passes_46 (q := 47) rfl ?_
          refine pw_iastS hX (by omega) dX4_passes_47 (q := 48) rfl ?_
          refine pw_aload_n hX rfl dX4_passes_48 (q := 49) rfl ?_
          refine pw_getMS hX 0 (by decide) fl_X4_7 rfl dX4_passes_49 (q := 52) rfl ?_
          refine pw_iconst hX (k := 3) rfl (by decide) dX4_passes_52 (q := 53) rfl ?_
          refine pw_dup2 hX rfl rfl dX4_passes_53 (q := 54) rfl ?_
          refine pw_ialdS hX (by omega) dX4_passes_54 (q := 55) rfl ?_
          refine pw_iconst hX (k := 1) rfl (by decide) dX4_passes_55 (q := 56) rfl ?_
          refine pw_iaddN hX dX4_passes_56 (q := 57) rfl ?_
          refine pw_iastS hX (by omega) dX4_passes_57 (q := 58) rfl ?_
          exact J29 _ (by first | (rw [if_neg (by simp [h_29])]; done) | (rw [if_pos h_29]; rfl))
    · refine pw_iconst hX (k := 0) rfl (by decide) dX4_passes_20 (q := 21) rfl ?_
      refine pw_ireturn hX dX4_passes_21 ⟨_, rfl, rfl⟩ ⟨congrArg (fun z => some (Value.int z)) ?_, ?_⟩
      · unfold mPr mPb; first | (rw [h_7]; rfl) | (rw [h_7, h_17]; rfl)
      · unfold mPs mPb; first | (rw [h_7]; rfl) | (rw [h_7, h_17]; rfl)
abbrev rm_X4_meets : Room := { frames := 4, cells := 0, slots := 0, locals := 92 }
set_option maxHeartbeats 4000000 in
set_option maxRecDepth 20000 in
theorem c_X4_meets {l : Launch} {g : Geo} {w : WD} {V : Nat → Nat → Nat} {S : Nat → Nat} {o p : Nat} (ho : o < 7) (hp : p < 7) (hB : bS S) : CtI l g yX4_meets cX4_meets 8 (some .int) rm_X4_meets [.ref (g_ad g 9 0), .int (nI o), .int (nI p)] (mW w V S) (nI (mMeet S o p).2) (mW w V (mMeet S o p).1) := by
  refine ct_of mi_X4_meets.2.2.2.2.2 ⟨rfl, rfl⟩ (List.forall_mem_cons.mpr ⟨rfl, List.forall_mem_cons.mpr ⟨rfl, List.forall_mem_cons.mpr ⟨rfl, fun _ h => absurd h List.not_mem_nil⟩⟩⟩) (Nat.le_of_ble_eq_true rfl) (fun P hX => ?_)
  replace hX : Gd l g RX4 cX4_meets rm_X4_meets 8 (some .int) _ _ P := hX
  show P (mW w V S) 0 [some (.ref (g_ad g 9 0)), some (.int (nI o)), some (.int (nI p)), none, none, none, none, none] []
  have h7 := hB.2.2.1
  refine pw_aload_n hX rfl dX4_meets_0 (q := 1) rfl ?_
  refine pw_iload_n hX rfl dX4_meets_1 (q := 2) rfl ?_
  refine pw_iconst hX (k := 1) rfl (by decide) dX4_meets_2 (q := 3) rfl ?_
  refine pw_cvI2 hX dX4_meets_3 (q := 6) rfl mi_X4_vi ml_X4_37 rcM ⟨rfl, rfl, by decide, by decide⟩ rfl (Nat.le_of_ble_eq_true rfl) (c_X4_vi (by first | assumption | omega) (by first | assumption | omega)) ?_
  refine pw_aload_n hX rfl dX4_meets_6 (q := 7) rfl ?_
  refine pw_iload_n hX rfl dX4_meets_7 (q := 8) rfl ?_
  refine pw_iconst hX (k := 1) rfl (by decide) dX4_meets_8 (q := 9) rfl ?_
  refine pw_cvI2 hX dX4_meets_9 (q := 12) rfl mi_X4_vi ml_X4_37 rcM ⟨rfl, rfl, by decide, by decide⟩ rfl (Nat.le_of_ble_eq_true rfl) (c_X4_vi (by first | assumption | omega) (by first | assumption | omega)) ?_
  refine jn (A := ∀ x : Nat, x = mClk S o p → P (mW w V S) 30 [some (.ref (g_ad g 9 0)), some (.int (nI o)), some (.int (nI p)), none, none, none, none, none] [.int (nI x)]) ?_ (fun J12 => ?_)
  · intro x hx
    refine pw_istore_n hX (by decide) dX4_meets_30 (q := 31) rfl ?_
    subst hx
    refine pw_aload_n hX rfl dX4_meets_31 (q := 32) rfl ?_
    refine pw_getMS hX 0 (by decide) fl_X4_7 rfl dX4_meets_32 (q := 35) rfl ?_
    refine pw_iconst hX (k := 5) rfl (by decide) dX4_meets_35 (q := 36) rfl ?_
    refine pw_iconst hX (k := 4) rfl (by decide) dX4_meets_36 (q := 37) rfl ?_
    refine pw_iload_n hX rfl dX4_meets_37 (q := 38) rfl ?_
    refine pw_imulN hX dX4_meets_38 (q := 39) rfl ?_
    refine pw_iaddN hX dX4_meets_39 (q := 40) rfl ?_
    refine pw_iconst hX (k := 1) rfl (by decide) dX4_meets_40 (q := 41) rfl ?_
    refine pw_iaddN hX dX4_meets_41 (q := 42) rfl ?_
    refine pw_iload_n hX rfl dX4_meets_42 (q := 43) rfl ?_
    refine pw_iastS hX (by omega) dX4_meets_43 (q := 44) rfl ?_
    refine pw_aload_n hX rfl dX4_meets_44 (q := 45) rfl ?_
    refine pw_getMS hX 0 (by decide) fl_X4_7 rfl dX4_meets_45 (q := 48) rfl ?_
    refine pw_iconst hX (k := 5) rfl (by decide) dX4_meets_48 (q := 49) rfl ?_
    refine pw_iconst hX (k := 4) rfl (by decide) dX4_meets_49 (q := 50) rfl ?_
    refine pw_iload_n hX rfl dX4_meets_50 (q := 51) rfl ?_
    refine pw_imulN hX dX4_meets_51 (q := 52) rfl ?_
    refine pw_iaddN hX dX4_meets_52 (q := 53) rfl ?_
    refine pw_iconst hX (k := 1) rfl (by decide) dX4_meets_53 (q := 54) rfl ?_
    refine pw_iaddN hX dX4_meets_54 (q := 55) rfl ?_
    refine pw_iload_n hX rfl dX4_meets_55 (q := 56) rfl ?_
    refine pw_iastS hX (by omega) dX4_meets_56 (q := 57) rfl ?_
    refine pw_iconst hX (k := 0) rfl (by decide) dX4_meets_57 (q := 58) rfl ?_
    refine pw_istore hX (by decide) dX4_meets_58 (q := 60) rfl ?_
    refine pw_iconst hX (k := 0) rfl (by decide) dX4_meets_60 (q := 61) rfl ?_
    refine pw_istore hX (by decide) dX4_meets_61 (q := 63) rfl ?_
    suffices L : ∀ t, t ≤ 12 → P (mW w V (mMt (mMeet0 S o p) o p t).1) 63 [some (.ref (g_ad g 9 0)), some (.int (nI o)), some (.int (nI p)), some (.int (nI (mClk S o p))), some (.int (nI (mMt (mMeet0 S o p) o p t).2)), some (.int (nI t)), none, none] [] by exact pw_fg hX (by repeat first | exact lle_nil | refine lle_cons ?_ | refine lle_none ?_) (L 0 (Nat.zero_le _))
    refine loopUp (fun t ht ih => ?_)
    have hBt : bS (mMt (mMeet0 S o p) o p t).1 := bS_Mt (bS_Meet0 hB ho hp) ho hp t ht
    refine pw_iload hX rfl dX4_meets_63 (q := 65) rfl ?_
    refine pw_bipush hX (k := 12) (by decide) dX4_meets_65 (q := 67) rfl ?_
    refine pw_icmpN_ge hX (by first | omega | exact bSw hB (by omega) (by omega) (by omega) | exact bSe hBt (by omega) (by omega) | exact bSe hB1 (by omega) (by omega) | (unfold mPr; split <;> omega)) (by first | omega | exact bSw hB (by omega) (by omega) (by omega) | exact bSe hBt (by omega) (by omega) | exact bSe hB1 (by omega) (by omega) | (unfold mPr; split <;> omega)) (tgt := 204) dX4_meets_67 (q := 70) rfl (by decide) (fun h_67 => ?_) (fun h_67 => ?_)
    · refine pw_iload hX rfl dX4_meets_204 (q := 206) rfl ?_
      refine pw_ireturn hX dX4_meets_206 ⟨_, rfl, rfl⟩ ⟨congrArg (fun z => some (Value.int z)) ?_, ?_⟩
      · rw [show t = 12 by omega]; rfl
      · rw [show t = 12 by omega]; rfl
    · refine pw_aload_n hX rfl dX4_meets_70 (q := 71) rfl ?_
      refine pw_iload_n hX rfl dX4_meets_71 (q := 72) rfl ?_
      refine pw_iload_n hX rfl dX4_meets_72 (q := 73) rfl ?_
      refine pw_iload hX rfl dX4_meets_73 (q := 75) rfl ?_
      refine pw_cvI3 hX dX4_meets_75 (q := 78) rfl mi_X4_passes ml_X4_108 rcM ⟨rfl, rfl, by decide, by decide⟩ rfl (Nat.le_of_ble_eq_true rfl) (c_X4_passes ho hp (by omega) hBt) ?_
      refine pw_istore hX (by decide) dX4_meets_78 (q := 80) rfl ?_
      refine pw_iload hX rfl dX4_meets_80 (q := 82) rfl ?_
      refine pw_iload hX rfl dX4_meets_82 (q := 84) rfl ?_
      refine jn (A := ∀ (S1 : Nat → Nat) (x : Nat), S1 = mP2s (mMt (mMeet0 S o p) o p t).1 o p t → x = mP2n (mMt (mMeet0 S o p) o p t).1 o p t → P (mW w V S1) 99 [some (.ref (g_ad g 9 0)), some (.int (nI o)), some (.int (nI p)), some (.int (nI (mClk S o p))), some (.int (nI (mMt (mMeet0 S o p) o p t).2)), some (.int (nI t)), none, none] [.int (nI x), .int (nI (mMt (mMeet0 S o p) o p t).2)]) ?_ (fun J84 => ?_)
      · intro S1 x hS1 hx1
        have hB1 : bS S1 := by rw [hS1]; exact bS_P2 hBt ho hp (by omega)
        refine pw_iaddN hX dX4_meets_99 (q := 100) rfl ?_
        refine pw_istore hX (by decide) dX4_meets_100 (q := 102) rfl ?_
        refine pw_aload_n hX rfl dX4_meets_102 (q := 103) rfl ?_
        refine pw_iload_n hX rfl dX4_meets_103 (q := 104) rfl ?_
        refine pw_iload hX rfl dX4_meets_104 (q := 106) rfl ?_
        refine pw_iconst hX (k := 0) rfl (by decide) dX4_meets_106 (q := 107) rfl ?_
        refine pw_cvI3 hX dX4_meets_107 (q := 110) rfl mi_X4_en ml_X4_73 rcM ⟨rfl, rfl, by decide, by decide⟩ rfl (Nat.le_of_ble_eq_true rfl) (c_X4_en (by first | assumption | omega) (by first | assumption | omega) (by first | assumption | omega)) ?_
        refine pw_iconst hX (k := 2) rfl (by decide) dX4_meets_110 (q := 111) rfl ?_
        refine pw_icmpN_ne hX (by first | omega | exact bSw hB (by omega) (by omega) (by omega) | exact bSe hBt (by omega) (by omega) | exact bSe hB1 (by omega) (by omega) | (unfold mPr; split <;> omega)) (by first | omega | exact bSw hB (by omega) (by omega) (by omega) | exact bSe hBt (by omega) (by omega) | exact bSe hB1 (by omega) (by omega) | (unfold mPr; split <;> omega)) (tgt := 198) dX4_meets_111 (q := 114) rfl (by decide) (fun h_111 => ?_) (fun h_111 => ?_)
        · refine pw_iinc hX rfl (by decide) (inc1 _) dX4_meets_198 (q := 201) rfl ?_
          refine pw_goto hX (tgt := 63) dX4_meets_201 (by decide) ?_
          refine pw_fg hX (lv' := [some (.ref (g_ad g 9 0)), some (.int (nI o)), some (.int (nI p)), some (.int (nI (mClk S o p))), some (.int (nI ((mMt (mMeet0 S o p) o p t).2 + x))), some (.int (nI (t + 1))), none, none]) (by repeat first | exact lle_nil | refine lle_cons ?_ | refine lle_none ?_) (pw_eq (congrArg (mW w V) ?_) (by rw [hx1]; rfl) rfl (ih (by omega)))
          show _ = mSee (mP2s (mMt (mMeet0 S o p) o p t).1 o p t) o p t
          rw [← hS1]
          unfold mSee
          first | (rw [if_neg (fun z => h_111 z.1)]; done) | (rw [if_neg (fun z => h_123 z.2.1)]; done) | (rw [if_neg (fun z => by simp [h_134] at z)]; done) | (rw [if_pos ⟨h_111, h_123, h_134⟩]; rfl)
        · refine pw_aload_n hX rfl dX4_meets_114 (q := 115) rfl ?_
          refine pw_iload_n hX rfl dX4_meets_115 (q := 116) rfl ?_
          refine pw_iload hX rfl dX4_meets_116 (q := 118) rfl ?_
          refine pw_iconst hX (k := 0) rfl (by decide) dX4_meets_118 (q := 119) rfl ?_
          refine pw_cvI3 hX dX4_meets_119 (q := 122) rfl mi_X4_en ml_X4_73 rcM ⟨rfl, rfl, by decide, by decide⟩ rfl (Nat.le_of_ble_eq_true rfl) (c_X4_en (by first | assumption | omega) (by first | assumption | omega) (by first | assumption | omega)) ?_
          refine pw_iconst hX (k := 2) rfl (by decide) dX4_meets_122 (q := 123) rfl ?_
          refine pw_icmpN_ne hX (by first | omega | exact bSw hB (by omega) (by omega) (by omega) | exact bSe hBt (by omega) (by omega) | exact bSe hB1 (by omega) (by omega) | (unfold mPr; split <;> omega)) (by first | omega | exact bSw hB (by omega) (by omega) (by omega) | exact bSe hBt (by omega) (by omega) | exact bSe hB1 (by omega) (by omega) | (unfold mPr; split <;> omega)) (tgt := 198) dX4_meets_123 (q := 126) rfl (by decide) (fun h_123 => ?_) (fun h_123 => ?_)
          · refine pw_iinc hX rfl (by decide) (inc1 _) dX4_meets_198 (q := 201) rfl ?_
            refine pw_goto hX (tgt := 63) dX4_meets_201 (by decide) ?_
            refine pw_fg hX (lv' := [some (.ref (g_ad g 9 0)), some (.int (nI o)), some (.int (nI p)), some (.int (nI (mClk S o p))), some (.int (nI ((mMt (mMeet0 S o p) o p t).2 + x))), some (.int (nI (t + 1))), none, none]) (by repeat first | exact lle_nil | refine lle_cons ?_ | refine lle_none ?_) (pw_eq (congrArg (mW w V) ?_) (by rw [hx1]; rfl) rfl (ih (by omega)))
            show _ = mSee (mP2s (mMt (mMeet0 S o p) o p t).1 o p t) o p t
            rw [← hS1]
            unfold mSee
            first | (rw [if_neg (fun z => h_111 z.1)]; done) | (rw [if_neg (fun z => h_123 z.2.1)]; done) | (rw [if_neg (fun z => by simp [h_134] at z)]; done) | (rw [if_pos ⟨h_111, h_123, h_134⟩]; rfl)
          · refine pw_aload_n hX rfl dX4_meets_126 (q := 127) rfl ?_
            refine pw_iload_n hX rfl dX4_meets_127 (q := 128) rfl ?_
            refine pw_iload_n hX rfl dX4_meets_128 (q := 129) rfl ?_
            refine pw_iload hX rfl dX4_meets_129 (q := 131) rfl ?_
            refine pw_cvI3 hX dX4_meets_131 (q := 134) rfl mi_X4_areSame ml_X4_111 rcM ⟨rfl, rfl, by decide, by decide⟩ rfl (Nat.le_of_ble_eq_true rfl) (c_X4_areSame ho hp (by omega) hB1) ?_
            refine pw_ifB_eq hX (tgt := 198) dX4_meets_134 (q := 137) rfl (by decide) (fun h_134 => ?_) (fun h_134 => ?_)
            · refine pw_iinc hX rfl (by decide) (inc1 _) dX4_meets_198 (q := 201) rfl ?_
              refine pw_goto hX (tgt := 63) dX4_meets_201 (by decide) ?_
              refine pw_fg hX (lv' := [some (.ref (g_ad g 9 0)), some (.int (nI o)), some (.int (nI p)), some (.int (nI (mClk S o p))), some (.int (nI ((mMt (mMeet0 S o p) o p t).2 + x))), some (.int (nI (t + 1))), none, none]) (by repeat first | exact lle_nil | refine lle_cons ?_ | refine lle_none ?_) (pw_eq (congrArg (mW w V) ?_) (by rw [hx1]; rfl) rfl (ih (by omega)))
              show _ = mSee (mP2s (mMt (mMeet0 S o p) o p t).1 o p t) o p t
              rw [← hS1]
              unfold mSee
              first | (rw [if_neg (fun z => h_111 z.1)]; done) | (rw [if_neg (fun z => h_123 z.2.1)]; done) | (rw [if_neg (fun z => by simp [h_134] at z)]; done) | (rw [if_pos ⟨h_111, h_123, h_134⟩]; rfl)
            · refine pw_aload_n hX rfl dX4_meets_137 (q := 138) rfl ?_
              refine pw_iload_n hX rfl dX4_meets_138 (q := 139) rfl ?_
              refine pw_iload hX rfl dX4_meets_139 (q := 141) rfl ?_
              refine pw_bipush hX (k := 6) (by decide) dX4_meets_141 (q := 143) rfl ?_
              refine pw_cvI3 hX dX4_meets_143 (q := 146) rfl mi_X4_en ml_X4_73 rcM ⟨rfl, rfl, by decide, by decide⟩ rfl (Nat.le_of_ble_eq_true rfl) (c_X4_en (by first | assumption | omega) (by first | assumption | omega) (by first | assumption | omega)) ?_
              refine pw_aload_n hX rfl dX4_meets_146 (q := 147) rfl ?_
              refine pw_iload_n hX rfl dX4_meets_147 (q := 148) rfl ?_
              refine pw_iload hX rfl dX4_meets_148 (q := 150) rfl ?_
              refine pw_bipush hX (k := 6) (by decide) dX4_meets_150 (q := 152) rfl ?_
              refine pw_cvI3 hX dX4_meets_152 (q := 155) rfl mi_X4_en ml_X4_73 rcM ⟨rfl, rfl, by decide, by decide⟩ rfl (Nat.le_of_ble_eq_true rfl) (c_X4_en (by first | assumption | omega) (by first | assumption | omega) (by first | assumption | omega)) ?_
              refine pw_iorN hX dX4_meets_155 (q := 156) rfl ?_
              refine pw_iconst hX (k := 1) rfl (by decide) dX4_meets_156 (q := 157) rfl ?_
              refine pw_iload_n hX rfl dX4_meets_157 (q := 158) rfl ?_
              refine pw_ishl1 hX (by omega) dX4_meets_158 (q := 159) rfl ?_
              refine pw_iorN hX dX4_meets_159 (q := 160) rfl ?_
              refine pw_iconst hX (k := 1) rfl (by decide) dX4_meets_160 (q := 161) rfl ?_
              refine pw_iload_n hX rfl dX4_meets_161 (q := 162) rfl ?_
              refine pw_ishl1 hX (by omega) dX4_meets_162 (q := 163) rfl ?_
              refine pw_iorN hX dX4_meets_163 (q := 164) rfl ?_
              refine pw_istore hX (by decide) dX4_meets_164 (q := 166) rfl ?_
              refine pw_aload_n hX rfl dX4_meets_166 (q := 167) rfl ?_
              refine pw_getMS hX 0 (by decide) fl_X4_7 rfl dX4_meets_167 (q := 170) rfl ?_
              refine pw_iload_n hX rfl dX4_meets_170 (q := 171) rfl ?_
              refine pw_iload hX rfl dX4_meets_171 (q := 173) rfl ?_
              refine pw_csI2 hX dX4_meets_173 (q := 176) rfl mi_X4_place ml_X4_29 ⟨rfl, rfl, by decide, by decide⟩ rfl (Nat.le_of_ble_eq_true rfl) (c_X4_place) ?_
              refine pw_bipush hX (k := 6) (by decide) dX4_meets_176 (q := 178) rfl ?_
              refine pw_iaddN hX dX4_meets_178 (q := 179) rfl ?_
              refine pw_iload hX rfl dX4_meets_179 (q := 181) rfl ?_
              refine pw_iastS hX (by omega) dX4_meets_181 (q := 182) rfl ?_
              refine pw_aload_n hX rfl dX4_meets_182 (q := 183) rfl ?_
              refine pw_getMS hX 0 (by decide) fl_X4_7 rfl dX4_meets_183 (q := 186) rfl ?_
              refine pw_iload_n hX rfl dX4_meets_186 (q := 187) rfl ?_
              refine pw_iload hX rfl dX4_meets_187 (q := 189) rfl ?_
              refine pw_csI2 hX dX4_meets_189 (q := 192) rfl mi_X4_place ml_X4_29 ⟨rfl, rfl, by decide, by decide⟩ rfl (Nat.le_of_ble_eq_true rfl) (c_X4_place) ?_
              refine pw_bipush hX (k := 6) (by decide) dX4_meets_192 (q := 194) rfl ?_
              refine pw_iaddN hX dX4_meets_194 (q := 195) rfl ?_
              refine pw_iload hX rfl dX4_meets_195 (q := 197) rfl ?_
              refine pw_iastS hX (by omega) dX4_meets_197 (q := 198) rfl ?_
              refine pw_iinc hX rfl (by decide) (inc1 _) dX4_meets_198 (q := 201) rfl ?_
              refine pw_goto hX (tgt := 63) dX4_meets_201 (by decide) ?_
              refine pw_fg hX (lv' := [some (.ref (g_ad g 9 0)), some (.int (nI o)), some (.int (nI p)), some (.int (nI (mClk S o p))), some (.int (nI ((mMt (mMeet0 S o p) o p t).2 + x))), some (.int (nI (t + 1))), none, none]) (by repeat first | exact lle_nil | refine lle_cons ?_ | refine lle_none ?_) (pw_eq (congrArg (mW w V) ?_) (by rw [hx1]; rfl) rfl (ih (by omega)))
              show _ = mSee (mP2s (mMt (mMeet0 S o p) o p t).1 o p t) o p t
              rw [← hS1]
              unfold mSee
              first | (rw [if_neg (fun z => h_111 z.1)]; done) | (rw [if_neg (fun z => h_123 z.2.1)]; done) | (rw [if_neg (fun z => by simp [h_134] at z)]; done) | (rw [if_pos ⟨h_111, h_123, h_134⟩]; rfl)
      · refine pw_ifN_le hX (by first | omega | exact bSw hB (by omega) (by omega) (by omega) | exact bSe hBt (by omega) (by omega) | exact bSe hB1 (by omega) (by omega) | (unfold mPr; split <;> omega)) (tgt := 91) dX4_meets_84 (q := 87) rfl (by decide) (fun h_84 => ?_) (fun h_84 => ?_)
        · have hpb : ¬ mPb (mMt (mMeet0 S o p) o p t).1 o p t = true := fun z => by rw [mPr, if_pos z] at h_84; omega
          have hps : mPs (mMt (mMeet0 S o p) o p t).1 o p t = (mMt (mMeet0 S o p) o p t).1 := if_neg hpb
          refine pw_aload_n hX rfl dX4_meets_91 (q := 92) rfl ?_
          refine pw_iload_n hX rfl dX4_meets_92 (q := 93) rfl ?_
          refine pw_iload_n hX rfl dX4_meets_93 (q := 94) rfl ?_
          refine pw_iload hX rfl dX4_meets_94 (q := 96) rfl ?_
          refine pw_cvI3 hX dX4_meets_96 (q := 99) rfl mi_X4_passes ml_X4_108 rcM ⟨rfl, rfl, by decide, by decide⟩ rfl (Nat.le_of_ble_eq_true rfl) (c_X4_passes hp ho (by omega) (bS_Ps hBt ho hp (by omega))) ?_
          exact pw_fg hX (by repeat first | exact lle_nil | refine lle_cons ?_ | refine lle_none ?_) (J84 _ _ (by first | (rw [mP2s, if_pos hpb]; done) | (rw [hps, mP2s, if_neg hpb]; done)) (by first | (rw [mP2n, if_pos hpb]; done) | (rw [hps, mP2n, if_neg hpb]; done)))
        · have hpb : mPb (mMt (mMeet0 S o p) o p t).1 o p t = true := by
            rw [mPr] at h_84
            by_cases z : mPb (mMt (mMeet0 S o p) o p t).1 o p t = true
            · exact z
            · rw [if_neg z] at h_84; omega
          refine pw_iconst hX (k := 1) rfl (by decide) dX4_meets_87 (q := 88) rfl ?_
          refine pw_goto hX (tgt := 99) dX4_meets_88 (by decide) ?_
          exact pw_fg hX (by repeat first | exact lle_nil | refine lle_cons ?_ | refine lle_none ?_) (J84 _ _ (by first | (rw [mP2s, if_pos hpb]; done) | (rw [hps, mP2s, if_neg hpb]; done)) (by first | (rw [mP2n, if_pos hpb]; done) | (rw [hps, mP2n, if_neg hpb]; done)))
  · refine pw_icmpN_le hX (by first | omega | exact bSw hB (by omega) (by omega) (by omega) | exact bSe hBt (by omega) (by omega) | exact bSe hB1 (by omega) (by omega) | (unfold mPr; split <;> omega)) (by first | omega | exact bSw hB (by omega) (by omega) (by omega) | exact bSe hBt (by omega) (by omega) | exact bSe hB1 (by omega) (by omega) | (unfold mPr; split <;> omega)) (tgt := 24) dX4_meets_12 (q := 15) rfl (by decide) (fun h_12 => ?_) (fun h_12 => ?_)
    · refine pw_aload_n hX rfl dX4_meets_24 (q := 25) rfl ?_
      refine pw_iload_n hX rfl dX4_meets_25 (q := 26) rfl ?_
      refine pw_iconst hX (k := 1) rfl (by decide) dX4_meets_26 (q := 27) rfl ?_
      refine pw_cvI2 hX dX4_meets_27 (q := 30) rfl mi_X4_vi ml_X4_37 rcM ⟨rfl, rfl, by decide, by decide⟩ rfl (Nat.le_of_ble_eq_true rfl) (c_X4_vi (by first | assumption | omega) (by first | assumption | omega)) ?_
      exact J12 _ (by first | (rw [mClk, if_pos h_12]; done) | (rw [mClk, if_neg (by omega)]; done))
    · refine pw_aload_n hX rfl dX4_meets_15 (q := 16) rfl ?_
      refine pw_iload_n hX rfl dX4_meets_16 (q := 17) rfl ?_
      refine pw_iconst hX (k := 1) rfl (by decide) dX4_meets_17 (q := 18) rfl ?_
      refine pw_cvI2 hX dX4_meets_18 (q := 21) rfl mi_X4_vi ml_X4_37 rcM ⟨rfl, rfl, by decide, by decide⟩ rfl (Nat.le_of_ble_eq_true rfl) (c_X4_vi (by first | assumption | omega) (by first | assumption | omega)) ?_
      refine pw_goto hX (tgt := 30) dX4_meets_21 (by decide) ?_
      exact J12 _ (by first | (rw [mClk, if_pos h_12]; done) | (rw [mClk, if_neg (by omega)]; done))
abbrev rm_X4_meetsOne : Room := { frames := 5, cells := 0, slots := 0, locals := 119 }
set_option maxHeartbeats 4000000 in
set_option maxRecDepth 20000 in
theorem c_X4_meetsOne {l : Launch} {g : Geo} {w : WD} {V : Nat → Nat → Nat} {S : Nat → Nat} {v u : Int32} (hB : bS S) : CtI l g yX4_meetsOne cX4_meetsOne 3 (some .int) rm_X4_meetsOne [.ref (g_ad g 9 0), .int v, .int u] (mW w V S) ((mMeets1 S v u).2) (mW w V (mMeets1 S v u).1) := by
  refine ct_of mi_X4_meetsOne.2.2.2.2.2 ⟨rfl, rfl⟩ (List.forall_mem_cons.mpr ⟨rfl, List.forall_mem_cons.mpr ⟨rfl, List.forall_mem_cons.mpr ⟨rfl, fun _ h => absurd h List.not_mem_nil⟩⟩⟩) (Nat.le_of_ble_eq_true rfl) (fun P hX => ?_)
  replace hX : Gd l g RX4 cX4_meetsOne rm_X4_meetsOne 3 (some .int) _ _ P := hX
  show P (mW w V S) 0 [some (.ref (g_ad g 9 0)), some (.int v), some (.int u)] []
  have h7 := hB.2.2.1
  refine pw_aload_n hX rfl dX4_meetsOne_0 (q := 1) rfl ?_
  refine pw_iload_n hX rfl dX4_meetsOne_1 (q := 2) rfl ?_
  refine pw_cvI1 hX dX4_meetsOne_2 (q := 5) rfl mi_X4_isVillager ml_X4_53 rcM ⟨rfl, rfl, by decide, by decide⟩ rfl (Nat.le_of_ble_eq_true rfl) (c_X4_isVillager (by first | assumption | omega)) ?_
  refine pw_ifB_eq hX (tgt := 21) dX4_meetsOne_5 (q := 8) rfl (by decide) (fun h_5 => ?_) (fun h_5 => ?_)
  · refine pw_ldc hX cn_X4_40 dX4_meetsOne_21 (q := 23) rfl ?_
    refine pw_ireturn hX dX4_meetsOne_23 ⟨_, rfl, rfl⟩ ⟨congrArg (fun z => some (Value.int z)) ?_, ?_⟩
    · rw [mMeets1, if_neg (by rintro ⟨a1, a2, a3⟩; simp_all)]
    · rw [mMeets1, if_neg (by rintro ⟨a1, a2, a3⟩; simp_all)]
  · obtain ⟨i, hi, rfl⟩ := hasN_of (by have := hB.2.2.1; omega) h_5
    have hx : ix (nI i) = i := ix_nI (by have := hB.2.2.1; omega)
    have h7 := hB.2.2.1
    refine pw_aload_n hX rfl dX4_meetsOne_8 (q := 9) rfl ?_
    refine pw_iload_n hX rfl dX4_meetsOne_9 (q := 10) rfl ?_
    refine pw_cvI1 hX dX4_meetsOne_10 (q := 13) rfl mi_X4_isVillager ml_X4_53 rcM ⟨rfl, rfl, by decide, by decide⟩ rfl (Nat.le_of_ble_eq_true rfl) (c_X4_isVillager (by first | assumption | omega)) ?_
    refine pw_ifB_eq hX (tgt := 21) dX4_meetsOne_13 (q := 16) rfl (by decide) (fun h_13 => ?_) (fun h_13 => ?_)
    · refine pw_ldc hX cn_X4_40 dX4_meetsOne_21 (q := 23) rfl ?_
      refine pw_ireturn hX dX4_meetsOne_23 ⟨_, rfl, rfl⟩ ⟨congrArg (fun z => some (Value.int z)) ?_, ?_⟩
      · rw [mMeets1, if_neg (by rintro ⟨a1, a2, a3⟩; simp_all)]
      · rw [mMeets1, if_neg (by rintro ⟨a1, a2, a3⟩; simp_all)]
    · obtain ⟨j, hj, rfl⟩ := hasN_of (by omega) h_13
      have hxj : ix (nI j) = j := ix_nI (by omega)
      refine pw_iload_n hX rfl dX4_meetsOne_16 (q := 17) rfl ?_
      refine pw_iload_n hX rfl dX4_meetsOne_17 (q := 18) rfl ?_
      refine pw_icmpN_ne hX (by first | omega | exact bS0 hB | exact bSw hB (by omega) (by omega) (by omega) | exact bSe hB (by omega) (by omega) | exact bS1 hB | exact bS2 hB) (by first | omega | exact bS0 hB | exact bSw hB (by omega) (by omega) (by omega) | exact bSe hB (by omega) (by omega) | exact bS1 hB | exact bS2 hB) (tgt := 24) dX4_meetsOne_18 (q := 21) rfl (by decide) (fun h_18 => ?_) (fun h_18 => ?_)
      · have hne : nI i ≠ nI j := fun z => h_18 ((nI_eq (by omega) (by omega)).mp z)
        refine pw_aload_n hX rfl dX4_meetsOne_24 (q := 25) rfl ?_
        refine pw_iload_n hX rfl dX4_meetsOne_25 (q := 26) rfl ?_
        refine pw_cvI1 hX dX4_meetsOne_26 (q := 29) rfl mi_X4_isAwake ml_X4_57 rcM ⟨rfl, rfl, by decide, by decide⟩ rfl (Nat.le_of_ble_eq_true rfl) (c_X4_isAwake (by first | assumption | omega) (by first | assumption | omega)) ?_
        refine pw_ifB_eq hX (tgt := 49) dX4_meetsOne_29 (q := 32) rfl (by decide) (fun h_29 => ?_) (fun h_29 => ?_)
        · have h_29 := of_decide_eq_false h_29
          refine pw_ldc hX cn_X4_60 dX4_meetsOne_49 (q := 51) rfl ?_
          refine pw_ireturn hX dX4_meetsOne_51 ⟨_, rfl, rfl⟩ ⟨congrArg (fun z => some (Value.int z)) ?_, ?_⟩
          · rw [mMeets1, if_pos ⟨h_5, h_13, hne⟩, hx, hxj]; first | (rw [if_pos ⟨h_29, h_37⟩]; done) | (rw [if_neg (fun z => h_29 z.1)]; done) | (rw [if_neg (fun z => h_37 z.2)]; done)
          · rw [mMeets1, if_pos ⟨h_5, h_13, hne⟩, hx, hxj]; first | (rw [if_pos ⟨h_29, h_37⟩]; done) | (rw [if_neg (fun z => h_29 z.1)]; done) | (rw [if_neg (fun z => h_37 z.2)]; done)
        · have h_29 := of_decide_eq_true h_29
          refine pw_aload_n hX rfl dX4_meetsOne_32 (q := 33) rfl ?_
          refine pw_iload_n hX rfl dX4_meetsOne_33 (q := 34) rfl ?_
          refine pw_cvI1 hX dX4_meetsOne_34 (q := 37) rfl mi_X4_isAwake ml_X4_57 rcM ⟨rfl, rfl, by decide, by decide⟩ rfl (Nat.le_of_ble_eq_true rfl) (c_X4_isAwake (by first | assumption | omega) (by first | assumption | omega)) ?_
          refine pw_ifB_eq hX (tgt := 49) dX4_meetsOne_37 (q := 40) rfl (by decide) (fun h_37 => ?_) (fun h_37 => ?_)
          · have h_37 := of_decide_eq_false h_37
            refine pw_ldc hX cn_X4_60 dX4_meetsOne_49 (q := 51) rfl ?_
            refine pw_ireturn hX dX4_meetsOne_51 ⟨_, rfl, rfl⟩ ⟨congrArg (fun z => some (Value.int z)) ?_, ?_⟩
            · rw [mMeets1, if_pos ⟨h_5, h_13, hne⟩, hx, hxj]; first | (rw [if_pos ⟨h_29, h_37⟩]; done) | (rw [if_neg (fun z => h_29 z.1)]; done) | (rw [if_neg (fun z => h_37 z.2)]; done)
            · rw [mMeets1, if_pos ⟨h_5, h_13, hne⟩, hx, hxj]; first | (rw [if_pos ⟨h_29, h_37⟩]; done) | (rw [if_neg (fun z => h_29 z.1)]; done) | (rw [if_neg (fun z => h_37 z.2)]; done)
          · have h_37 := of_decide_eq_true h_37
            refine pw_aload_n hX rfl dX4_meetsOne_40 (q := 41) rfl ?_
            refine pw_iload_n hX rfl dX4_meetsOne_41 (q := 42) rfl ?_
            refine pw_iload_n hX rfl dX4_meetsOne_42 (q := 43) rfl ?_
            refine pw_cvI2 hX dX4_meetsOne_43 (q := 46) rfl mi_X4_meets ml_X4_114 rcM ⟨rfl, rfl, by decide, by decide⟩ rfl (Nat.le_of_ble_eq_true rfl) (c_X4_meets (by first | assumption | omega) (by first | assumption | omega) (by first | assumption | omega)) ?_
            refine pw_goto hX (tgt := 51) dX4_meetsOne_46 (by decide) ?_
            refine pw_ireturn hX dX4_meetsOne_51 ⟨_, rfl, rfl⟩ ⟨congrArg (fun z => some (Value.int z)) ?_, ?_⟩
            · rw [mMeets1, if_pos ⟨h_5, h_13, hne⟩, hx, hxj]; first | (rw [if_pos ⟨h_29, h_37⟩]; done) | (rw [if_neg (fun z => h_29 z.1)]; done) | (rw [if_neg (fun z => h_37 z.2)]; done)
            · rw [mMeets1, if_pos ⟨h_5, h_13, hne⟩, hx, hxj]; first | (rw [if_pos ⟨h_29, h_37⟩]; done) | (rw [if_neg (fun z => h_29 z.1)]; done) | (rw [if_neg (fun z => h_37 z.2)]; done)
      · refine pw_ldc hX cn_X4_40 dX4_meetsOne_21 (q := 23) rfl ?_
        refine pw_ireturn hX dX4_meetsOne_23 ⟨_, rfl, rfl⟩ ⟨congrArg (fun z => some (Value.int z)) ?_, ?_⟩
        · rw [mMeets1, if_neg (by rintro ⟨a1, a2, a3⟩; simp_all)]
        · rw [mMeets1, if_neg (by rintro ⟨a1, a2, a3⟩; simp_all)]
abbrev rm_X4_meet : Room := { frames := 6, cells := 0, slots := 0, locals := 141 }
set_option maxHeartbeats 4000000 in
set_option maxRecDepth 20000 in
theorem c_X4_meet {l : Launch} {g : Geo} {w : WD} {V : Nat → Nat → Nat} {S : Nat → Nat} {v u : Int32} (h4 : V 0 4 ≤ 4) (hB : bS S) : CtI l g yX4_meet cX4_meet 3 (some .int) rm_X4_meet [.ref (g_ad g 9 0), .int v, .int u] (mW w V S) ((mMeets1 S v u).2) (mW w (mActed (vA V 3 S) (mMeets1 S v u).2) (mMeets1 S v u).1) := by
  refine ct_of mi_X4_meet.2.2.2.2.2 ⟨rfl, rfl⟩ (List.forall_mem_cons.mpr ⟨rfl, List.forall_mem_cons.mpr ⟨rfl, List.forall_mem_cons.mpr ⟨rfl, fun _ h => absurd h List.not_mem_nil⟩⟩⟩) (Nat.le_of_ble_eq_true rfl) (fun P hX => ?_)
  replace hX : Gd l g RX4 cX4_meet rm_X4_meet 3 (some .int) _ _ P := hX
  show P (mW w V S) 0 [some (.ref (g_ad g 9 0)), some (.int v), some (.int u)] []
  have h7 := hB.2.2.1
  refine pw_aload_n hX rfl dX4_meet_0 (q := 1) rfl ?_
  refine pw_cvV0 hX dX4_meet_1 (q := 4) rfl mi_X4_keeps ml_X4_46 rcM ⟨rfl, rfl, by decide, by decide⟩ rfl (Nat.le_of_ble_eq_true rfl) (c_X4_keeps) ?_
  refine pw_aload_n hX rfl dX4_meet_4 (q := 5) rfl ?_
  refine pw_aload_n hX rfl dX4_meet_5 (q := 6) rfl ?_
  refine pw_iload_n hX rfl dX4_meet_6 (q := 7) rfl ?_
  refine pw_iload_n hX rfl dX4_meet_7 (q := 8) rfl ?_
  refine pw_cvI2 hX dX4_meet_8 (q := 11) rfl mi_X4_meetsOne ml_X4_117 rcM ⟨rfl, rfl, by decide, by decide⟩ rfl (Nat.le_of_ble_eq_true rfl) (c_X4_meetsOne hB) ?_
  refine pw_cvI1 hX dX4_meet_11 (q := 14) rfl mi_X4_acted ml_X4_49 rcM ⟨rfl, rfl, by decide, by decide⟩ rfl (Nat.le_of_ble_eq_true rfl) (c_X4_acted (show (vA V 3 S) 0 4 ≤ 4 from h4)) ?_
  refine pw_ireturn hX dX4_meet_14 ⟨_, rfl, rfl⟩ ⟨congrArg (fun z => some (Value.int z)) ?_, ?_⟩
  · rfl
  · rfl
