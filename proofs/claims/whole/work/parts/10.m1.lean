theorem nI_1' : nI 1 = 1 := by decide
theorem in_has {n : Nat} (h : n < 2 ^ 31) (v : Int32) : (decide (nI 0 ≤ v) && decide (v ≤ nI n - nI 1)) = hasN n v := by
  unfold hasN
  rw [Bool.eq_iff_iff]
  simp only [Bool.and_eq_true, decide_eq_true_eq, Int32.le_iff_toInt_le]
  rw [nI_toInt (show 0 < 2 ^ 31 by decide)]
  rcases Nat.eq_zero_or_pos n with h0 | h0
  · subst h0
    rw [show (nI 0 - nI 1 : Int32).toInt = -1 by decide]
    omega
  · rw [pk_sub h0, nI_toInt (show n - 1 < 2 ^ 31 by omega)]
    omega
/-- lo to hi -/
def inN (lo hi : Nat) (v : Int32) : Bool := decide ((lo : Int) ≤ v.toInt ∧ v.toInt ≤ hi)
theorem in_in {lo hi : Nat} (h : lo < 2 ^ 31) (h2 : hi < 2 ^ 31) (v : Int32) : (decide (nI lo ≤ v) && decide (v ≤ nI hi)) = inN lo hi v := by
  unfold inN
  rw [Bool.eq_iff_iff]
  simp only [Bool.and_eq_true, decide_eq_true_eq, Int32.le_iff_toInt_le]
  rw [nI_toInt h, nI_toInt h2]
theorem inN_of {lo hi : Nat} {v : Int32} (hn : hi < 2 ^ 31) (h : inN lo hi v = true) : ∃ i, lo ≤ i ∧ i ≤ hi ∧ v = nI i := by
  unfold inN at h
  have h := of_decide_eq_true h
  refine ⟨v.toInt.toNat, by omega, by omega, ?_⟩
  apply Int32.toInt_inj.mp
  rw [nI_toInt (by omega)]
  omega
theorem inN_nI {lo hi i : Nat} (hi' : i < 2 ^ 31) : inN lo hi (nI i) = decide (lo ≤ i ∧ i ≤ hi) := by
  unfold inN
  rw [nI_toInt hi']
  simp
/-- how many of the first n -/
def cnt (p : Nat → Bool) : Nat → Nat
  | 0 => 0
  | n + 1 => cnt p n + if p n = true then 1 else 0
theorem cnt_le (p : Nat → Bool) : ∀ n, cnt p n ≤ n
  | 0 => Nat.le_refl _
  | n + 1 => by have := cnt_le p n; simp only [cnt]; split <;> omega
/-- the reference's numbers are small, but for the ghosts -/
def bS (S : Nat → Nat) : Prop := (∀ i, 33 ≤ i → i < 813 → S i < 2 ^ 30) ∧ (∀ v k, v < 7 → k < 4 → k ≠ 2 → S (5 + 4 * v + k) < 2 ^ 30) ∧ S 0 ≤ 7 ∧ S 1 < 2 ^ 30 ∧ S 2 < 2 ^ 30
theorem bSe {S : Nat → Nat} (h : bS S) {i : Nat} (h1 : 33 ≤ i) (h2 : i < 813) : S i < 2 ^ 31 := by have := h.1 i h1 h2; omega
theorem bSw {S : Nat → Nat} (h : bS S) {v k : Nat} (h1 : v < 7) (h2 : k < 4) (h3 : k ≠ 2) : S (5 + 4 * v + k) < 2 ^ 31 := by have := h.2.1 v k h1 h2 h3; omega
theorem bS0 {S : Nat → Nat} (h : bS S) : S 0 < 2 ^ 31 := by have := h.2.2.1; omega
theorem bS1 {S : Nat → Nat} (h : bS S) : S 1 < 2 ^ 31 := by have := h.2.2.2.1; omega
theorem bS2 {S : Nat → Nat} (h : bS S) : S 2 < 2 ^ 31 := by have := h.2.2.2.2; omega
abbrev rm_X4_in : Room := { frames := 0, cells := 0, slots := 0, locals := 0 }
set_option maxHeartbeats 4000000 in
set_option maxRecDepth 20000 in
theorem c_X4_in {l : Launch} {g : Geo} {w : WD} {v lo hi : Int32}  : CtI l g yX4_in cX4_in 3 (some .boolean) rm_X4_in [.int v, .int lo, .int hi] (w) (bI (decide (lo ≤ v) && decide (v ≤ hi))) (w) := by
  refine ct_of mi_X4_in.2.2.2.2 ⟨rfl, rfl⟩ (List.forall_mem_cons.mpr ⟨rfl, List.forall_mem_cons.mpr ⟨rfl, List.forall_mem_cons.mpr ⟨rfl, fun _ h => absurd h List.not_mem_nil⟩⟩⟩) (Nat.le_of_ble_eq_true rfl) (fun P hX => ?_)
  replace hX : Gd l g RX4 cX4_in rm_X4_in 3 (some .boolean) _ _ P := hX
  show P (w) 0 [some (.int v), some (.int lo), some (.int hi)] []
  refine pw_iload_n hX rfl dX4_in_0 (q := 1) rfl ?_
  refine pw_iload_n hX rfl dX4_in_1 (q := 2) rfl ?_
  refine pw_icmp_lt hX (tgt := 14) dX4_in_2 (q := 5) rfl (by decide) (fun h_2 => ?_) (fun h_2 => ?_)
  · refine pw_iconst hX (k := 0) rfl (by decide) dX4_in_14 (q := 15) rfl ?_
    refine pw_ireturn hX dX4_in_15 ⟨_, rfl, by first | exact bI_nar _ | decide | rfl⟩ ⟨congrArg (fun z => some (Value.int z)) ?_, ?_⟩
    · cases hb : (decide (lo ≤ v) && decide (v ≤ hi)) <;> simp only [Bool.and_eq_true, Bool.and_eq_false_iff, decide_eq_true_eq, decide_eq_false_iff_not, Int32.le_iff_toInt_le, Int32.lt_iff_toInt_lt] at * <;> first | rfl | (exfalso; omega)
    · rfl
  · refine pw_iload_n hX rfl dX4_in_5 (q := 6) rfl ?_
    refine pw_iload_n hX rfl dX4_in_6 (q := 7) rfl ?_
    refine pw_icmp_gt hX (tgt := 14) dX4_in_7 (q := 10) rfl (by decide) (fun h_7 => ?_) (fun h_7 => ?_)
    · refine pw_iconst hX (k := 0) rfl (by decide) dX4_in_14 (q := 15) rfl ?_
      refine pw_ireturn hX dX4_in_15 ⟨_, rfl, by first | exact bI_nar _ | decide | rfl⟩ ⟨congrArg (fun z => some (Value.int z)) ?_, ?_⟩
      · cases hb : (decide (lo ≤ v) && decide (v ≤ hi)) <;> simp only [Bool.and_eq_true, Bool.and_eq_false_iff, decide_eq_true_eq, decide_eq_false_iff_not, Int32.le_iff_toInt_le, Int32.lt_iff_toInt_lt] at * <;> first | rfl | (exfalso; omega)
      · rfl
    · refine pw_iconst hX (k := 1) rfl (by decide) dX4_in_10 (q := 11) rfl ?_
      refine pw_goto hX (tgt := 15) dX4_in_11 (by decide) ?_
      refine pw_ireturn hX dX4_in_15 ⟨_, rfl, by first | exact bI_nar _ | decide | rfl⟩ ⟨congrArg (fun z => some (Value.int z)) ?_, ?_⟩
      · cases hb : (decide (lo ≤ v) && decide (v ≤ hi)) <;> simp only [Bool.and_eq_true, Bool.and_eq_false_iff, decide_eq_true_eq, decide_eq_false_iff_not, Int32.le_iff_toInt_le, Int32.lt_iff_toInt_lt] at * <;> first | rfl | (exfalso; omega)
      · rfl
theorem c_X4_inN {l : Launch} {g : Geo} {w : WD} {v : Int32} {lo hi : Nat} (h1 : lo < 2 ^ 31) (h2 : hi < 2 ^ 31) : CtI l g yX4_in cX4_in 3 (some .boolean) rm_X4_in [.int v, .int (nI lo), .int (nI hi)] w (bI (inN lo hi v)) w := by
  rw [← in_in h1 h2]; exact c_X4_in
abbrev rm_X4_isTopic : Room := { frames := 1, cells := 0, slots := 0, locals := 22 }
set_option maxHeartbeats 4000000 in
set_option maxRecDepth 20000 in
theorem c_X4_isTopic {l : Launch} {g : Geo} {w : WD} {v : Int32}  : CtI l g yX4_isTopic cX4_isTopic 1 (some .boolean) rm_X4_isTopic [.int v] (w) (bI (hasN 12 v)) (w) := by
  refine ct_of mi_X4_isTopic.2.2.2.2 ⟨rfl, rfl⟩ (List.forall_mem_cons.mpr ⟨rfl, fun _ h => absurd h List.not_mem_nil⟩) (Nat.le_of_ble_eq_true rfl) (fun P hX => ?_)
  replace hX : Gd l g RX4 cX4_isTopic rm_X4_isTopic 1 (some .boolean) _ _ P := hX
  show P (w) 0 [some (.int v)] []
  refine pw_iload_n hX rfl dX4_isTopic_0 (q := 1) rfl ?_
  refine pw_iconst hX (k := 0) rfl (by decide) dX4_isTopic_1 (q := 2) rfl ?_
  refine pw_bipush hX (k := 11) (by decide) dX4_isTopic_2 (q := 4) rfl ?_
  refine pw_csI3 hX dX4_isTopic_4 (q := 7) rfl mi_X4_in ml_X4_33 ⟨rfl, rfl, by decide, by decide⟩ rfl (Nat.le_of_ble_eq_true rfl) (c_X4_in) ?_
  refine pw_ireturn hX dX4_isTopic_7 ⟨_, rfl, by first | exact bI_nar _ | decide | rfl⟩ ⟨congrArg (fun z => some (Value.int z)) ?_, ?_⟩
  · rw [← in_has (by decide) v]; rfl
  · rfl
abbrev rm_X4_vi : Room := { frames := 0, cells := 0, slots := 0, locals := 0 }
set_option maxHeartbeats 4000000 in
set_option maxRecDepth 20000 in
theorem c_X4_vi {l : Launch} {g : Geo} {w : WD} {V : Nat → Nat → Nat} {S : Nat → Nat} {i k : Nat} (hi : i < 7) (hk : k < 4) : CtI l g yX4_vi cX4_vi 3 (some .int) rm_X4_vi [.ref (g_ad g 9 0), .int (nI i), .int (nI k)] (mW w V S) (nI (S (5 + 4 * i + k))) (mW w V S) := by
  refine ct_of mi_X4_vi.2.2.2.2.2 ⟨rfl, rfl⟩ (List.forall_mem_cons.mpr ⟨rfl, List.forall_mem_cons.mpr ⟨rfl, List.forall_mem_cons.mpr ⟨rfl, fun _ h => absurd h List.not_mem_nil⟩⟩⟩) (Nat.le_of_ble_eq_true rfl) (fun P hX => ?_)
  replace hX : Gd l g RX4 cX4_vi rm_X4_vi 3 (some .int) _ _ P := hX
  show P (mW w V S) 0 [some (.ref (g_ad g 9 0)), some (.int (nI i)), some (.int (nI k))] []
  refine pw_aload_n hX rfl dX4_vi_0 (q := 1) rfl ?_
  refine pw_getMS hX 0 (by decide) fl_X4_7 rfl dX4_vi_1 (q := 4) rfl ?_
  refine pw_iconst hX (k := 5) rfl (by decide) dX4_vi_4 (q := 5) rfl ?_
  refine pw_iconst hX (k := 4) rfl (by decide) dX4_vi_5 (q := 6) rfl ?_
  refine pw_iload_n hX rfl dX4_vi_6 (q := 7) rfl ?_
  refine pw_imulN hX dX4_vi_7 (q := 8) rfl ?_
  refine pw_iaddN hX dX4_vi_8 (q := 9) rfl ?_
  refine pw_iload_n hX rfl dX4_vi_9 (q := 10) rfl ?_
  refine pw_iaddN hX dX4_vi_10 (q := 11) rfl ?_
  refine pw_ialdS hX (by omega) dX4_vi_11 (q := 12) rfl ?_
  refine pw_ireturn hX dX4_vi_12 ⟨_, rfl, rfl⟩ ⟨congrArg (fun z => some (Value.int z)) ?_, ?_⟩
  · rfl
  · rfl
abbrev rm_X4_place : Room := { frames := 0, cells := 0, slots := 0, locals := 0 }
set_option maxHeartbeats 4000000 in
set_option maxRecDepth 20000 in
theorem c_X4_place {l : Launch} {g : Geo} {w : WD} {i k : Nat}  : CtI l g yX4_place cX4_place 2 (some .int) rm_X4_place [.int (nI i), .int (nI k)] (w) (nI (225 + 84 * i + 7 * k)) (w) := by
  refine ct_of mi_X4_place.2.2.2.2 ⟨rfl, rfl⟩ (List.forall_mem_cons.mpr ⟨rfl, List.forall_mem_cons.mpr ⟨rfl, fun _ h => absurd h List.not_mem_nil⟩⟩) (Nat.le_of_ble_eq_true rfl) (fun P hX => ?_)
  replace hX : Gd l g RX4 cX4_place rm_X4_place 2 (some .int) _ _ P := hX
  show P (w) 0 [some (.int (nI i)), some (.int (nI k))] []
  refine pw_sipush hX (k := 225) (by decide) dX4_place_0 (q := 3) rfl ?_
  refine pw_bipush hX (k := 84) (by decide) dX4_place_3 (q := 5) rfl ?_
  refine pw_iload_n hX rfl dX4_place_5 (q := 6) rfl ?_
  refine pw_imulN hX dX4_place_6 (q := 7) rfl ?_
  refine pw_iaddN hX dX4_place_7 (q := 8) rfl ?_
  refine pw_bipush hX (k := 7) (by decide) dX4_place_8 (q := 10) rfl ?_
  refine pw_iload_n hX rfl dX4_place_10 (q := 11) rfl ?_
  refine pw_imulN hX dX4_place_11 (q := 12) rfl ?_
  refine pw_iaddN hX dX4_place_12 (q := 13) rfl ?_
  refine pw_ireturn hX dX4_place_13 ⟨_, rfl, rfl⟩ ⟨congrArg (fun z => some (Value.int z)) ?_, ?_⟩
  · rfl
  · rfl
abbrev rm_X4_en : Room := { frames := 1, cells := 0, slots := 0, locals := 21 }
set_option maxHeartbeats 4000000 in
set_option maxRecDepth 20000 in
theorem c_X4_en {l : Launch} {g : Geo} {w : WD} {V : Nat → Nat → Nat} {S : Nat → Nat} {i t k : Nat} (hi : i < 7) (ht : t < 12) (hk : k < 7) : CtI l g yX4_en cX4_en 4 (some .int) rm_X4_en [.ref (g_ad g 9 0), .int (nI i), .int (nI t), .int (nI k)] (mW w V S) (nI (S (225 + 84 * i + 7 * t + k))) (mW w V S) := by
  refine ct_of mi_X4_en.2.2.2.2.2 ⟨rfl, rfl⟩ (List.forall_mem_cons.mpr ⟨rfl, List.forall_mem_cons.mpr ⟨rfl, List.forall_mem_cons.mpr ⟨rfl, List.forall_mem_cons.mpr ⟨rfl, fun _ h => absurd h List.not_mem_nil⟩⟩⟩⟩) (Nat.le_of_ble_eq_true rfl) (fun P hX => ?_)
  replace hX : Gd l g RX4 cX4_en rm_X4_en 4 (some .int) _ _ P := hX
  show P (mW w V S) 0 [some (.ref (g_ad g 9 0)), some (.int (nI i)), some (.int (nI t)), some (.int (nI k))] []
  refine pw_aload_n hX rfl dX4_en_0 (q := 1) rfl ?_
  refine pw_getMS hX 0 (by decide) fl_X4_7 rfl dX4_en_1 (q := 4) rfl ?_
  refine pw_iload_n hX rfl dX4_en_4 (q := 5) rfl ?_
  refine pw_iload_n hX rfl dX4_en_5 (q := 6) rfl ?_
  refine pw_csI2 hX dX4_en_6 (q := 9) rfl mi_X4_place ml_X4_29 ⟨rfl, rfl, by decide, by decide⟩ rfl (Nat.le_of_ble_eq_true rfl) (c_X4_place) ?_
  refine pw_iload_n hX rfl dX4_en_9 (q := 10) rfl ?_
  refine pw_iaddN hX dX4_en_10 (q := 11) rfl ?_
  refine pw_ialdS hX (by omega) dX4_en_11 (q := 12) rfl ?_
  refine pw_ireturn hX dX4_en_12 ⟨_, rfl, rfl⟩ ⟨congrArg (fun z => some (Value.int z)) ?_, ?_⟩
  · rfl
  · rfl
abbrev rm_X4_isVillager : Room := { frames := 1, cells := 0, slots := 0, locals := 22 }
set_option maxHeartbeats 4000000 in
set_option maxRecDepth 20000 in
theorem c_X4_isVillager {l : Launch} {g : Geo} {w : WD} {V : Nat → Nat → Nat} {S : Nat → Nat} {v : Int32} (hn : S 0 ≤ 7) : CtI l g yX4_isVillager cX4_isVillager 2 (some .boolean) rm_X4_isVillager [.ref (g_ad g 9 0), .int v] (mW w V S) (bI (hasN (S 0) v)) (mW w V S) := by
  refine ct_of mi_X4_isVillager.2.2.2.2.2 ⟨rfl, rfl⟩ (List.forall_mem_cons.mpr ⟨rfl, List.forall_mem_cons.mpr ⟨rfl, fun _ h => absurd h List.not_mem_nil⟩⟩) (Nat.le_of_ble_eq_true rfl) (fun P hX => ?_)
  replace hX : Gd l g RX4 cX4_isVillager rm_X4_isVillager 2 (some .boolean) _ _ P := hX
  show P (mW w V S) 0 [some (.ref (g_ad g 9 0)), some (.int v)] []
  refine pw_iload_n hX rfl dX4_isVillager_0 (q := 1) rfl ?_
  refine pw_iconst hX (k := 0) rfl (by decide) dX4_isVillager_1 (q := 2) rfl ?_
  refine pw_aload_n hX rfl dX4_isVillager_2 (q := 3) rfl ?_
  refine pw_getMS hX 0 (by decide) fl_X4_7 rfl dX4_isVillager_3 (q := 6) rfl ?_
  refine pw_iconst hX (k := 0) rfl (by decide) dX4_isVillager_6 (q := 7) rfl ?_
  refine pw_ialdS hX (by omega) dX4_isVillager_7 (q := 8) rfl ?_
  refine pw_iconst hX (k := 1) rfl (by decide) dX4_isVillager_8 (q := 9) rfl ?_
  refine pw_isub hX dX4_isVillager_9 (q := 10) rfl ?_
  refine pw_csI3 hX dX4_isVillager_10 (q := 13) rfl mi_X4_in ml_X4_33 ⟨rfl, rfl, by decide, by decide⟩ rfl (Nat.le_of_ble_eq_true rfl) (c_X4_in) ?_
  refine pw_ireturn hX dX4_isVillager_13 ⟨_, rfl, by first | exact bI_nar _ | decide | rfl⟩ ⟨congrArg (fun z => some (Value.int z)) ?_, ?_⟩
  · rw [← in_has (by omega) v]
  · rfl
abbrev rm_X4_isAwake : Room := { frames := 1, cells := 0, slots := 0, locals := 22 }
set_option maxHeartbeats 4000000 in
set_option maxRecDepth 20000 in
theorem c_X4_isAwake {l : Launch} {g : Geo} {w : WD} {V : Nat → Nat → Nat} {S : Nat → Nat} {i : Nat} (hi : i < 7) (hB : bS S) : CtI l g yX4_isAwake cX4_isAwake 2 (some .boolean) rm_X4_isAwake [.ref (g_ad g 9 0), .int (nI i)] (mW w V S) (bI (decide (S (5 + 4 * i + 0) = 0))) (mW w V S) := by
  refine ct_of mi_X4_isAwake.2.2.2.2.2 ⟨rfl, rfl⟩ (List.forall_mem_cons.mpr ⟨rfl, List.forall_mem_cons.mpr ⟨rfl, fun _ h => absurd h List.not_mem_nil⟩⟩) (Nat.le_of_ble_eq_true rfl) (fun P hX => ?_)
  replace hX : Gd l g RX4 cX4_isAwake rm_X4_isAwake 2 (some .boolean) _ _ P := hX
  show P (mW w V S) 0 [some (.ref (g_ad g 9 0)), some (.int (nI i))] []
  refine pw_aload_n hX rfl dX4_isAwake_0 (q := 1) rfl ?_
  refine pw_iload_n hX rfl dX4_isAwake_1 (q := 2) rfl ?_
  refine pw_iconst hX (k := 0) rfl (by decide) dX4_isAwake_2 (q := 3) rfl ?_
  refine pw_cvI2 hX dX4_isAwake_3 (q := 6) rfl mi_X4_vi ml_X4_37 rcM ⟨rfl, rfl, by decide, by decide⟩ rfl (Nat.le_of_ble_eq_true rfl) (c_X4_vi (by first | assumption | omega) (by first | assumption | omega)) ?_
  refine pw_ifN_ne hX (by first | omega | exact bS0 hB | exact bSw hB (by omega) (by omega) (by omega) | exact bSe hB (by omega) (by omega) | exact bS1 hB | exact bS2 hB) (tgt := 13) dX4_isAwake_6 (q := 9) rfl (by decide) (fun h_6 => ?_) (fun h_6 => ?_)
  · refine pw_iconst hX (k := 0) rfl (by decide) dX4_isAwake_13 (q := 14) rfl ?_
    refine pw_ireturn hX dX4_isAwake_14 ⟨_, rfl, by first | exact bI_nar _ | decide | rfl⟩ ⟨congrArg (fun z => some (Value.int z)) ?_, ?_⟩
    · simp_all [bI]
    · rfl
  · refine pw_iconst hX (k := 1) rfl (by decide) dX4_isAwake_9 (q := 10) rfl ?_
    refine pw_goto hX (tgt := 14) dX4_isAwake_10 (by decide) ?_
    refine pw_ireturn hX dX4_isAwake_14 ⟨_, rfl, by first | exact bI_nar _ | decide | rfl⟩ ⟨congrArg (fun z => some (Value.int z)) ?_, ?_⟩
    · simp_all [bI]
    · rfl
abbrev rm_X4_isGone : Room := { frames := 1, cells := 0, slots := 0, locals := 22 }
set_option maxHeartbeats 4000000 in
set_option maxRecDepth 20000 in
theorem c_X4_isGone {l : Launch} {g : Geo} {w : WD} {V : Nat → Nat → Nat} {S : Nat → Nat} {i : Nat} (hi : i < 7) (hB : bS S) : CtI l g yX4_isGone cX4_isGone 2 (some .boolean) rm_X4_isGone [.ref (g_ad g 9 0), .int (nI i)] (mW w V S) (bI (decide (S (5 + 4 * i + 0) = 2))) (mW w V S) := by
  refine ct_of mi_X4_isGone.2.2.2.2.2 ⟨rfl, rfl⟩ (List.forall_mem_cons.mpr ⟨rfl, List.forall_mem_cons.mpr ⟨rfl, fun _ h => absurd h List.not_mem_nil⟩⟩) (Nat.le_of_ble_eq_true rfl) (fun P hX => ?_)
  replace hX : Gd l g RX4 cX4_isGone rm_X4_isGone 2 (some .boolean) _ _ P := hX
  show P (mW w V S) 0 [some (.ref (g_ad g 9 0)), some (.int (nI i))] []
  refine pw_aload_n hX rfl dX4_isGone_0 (q := 1) rfl ?_
  refine pw_iload_n hX rfl dX4_isGone_1 (q := 2) rfl ?_
  refine pw_iconst hX (k := 0) rfl (by decide) dX4_isGone_2 (q := 3) rfl ?_
  refine pw_cvI2 hX dX4_isGone_3 (q := 6) rfl mi_X4_vi ml_X4_37 rcM ⟨rfl, rfl, by decide, by decide⟩ rfl (Nat.le_of_ble_eq_true rfl) (c_X4_vi (by first | assumption | omega) (by first | assumption | omega)) ?_
  refine pw_iconst hX (k := 2) rfl (by decide) dX4_isGone_6 (q := 7) rfl ?_
  refine pw_icmpN_ne hX (by first | omega | exact bS0 hB | exact bSw hB (by omega) (by omega) (by omega) | exact bSe hB (by omega) (by omega) | exact bS1 hB | exact bS2 hB) (by first | omega | exact bS0 hB | exact bSw hB (by omega) (by omega) (by omega) | exact bSe hB (by omega) (by omega) | exact bS1 hB | exact bS2 hB) (tgt := 14) dX4_isGone_7 (q := 10) rfl (by decide) (fun h_7 => ?_) (fun h_7 => ?_)
  · refine pw_iconst hX (k := 0) rfl (by decide) dX4_isGone_14 (q := 15) rfl ?_
    refine pw_ireturn hX dX4_isGone_15 ⟨_, rfl, by first | exact bI_nar _ | decide | rfl⟩ ⟨congrArg (fun z => some (Value.int z)) ?_, ?_⟩
    · simp_all [bI]
    · rfl
  · refine pw_iconst hX (k := 1) rfl (by decide) dX4_isGone_10 (q := 11) rfl ?_
    refine pw_goto hX (tgt := 15) dX4_isGone_11 (by decide) ?_
    refine pw_ireturn hX dX4_isGone_15 ⟨_, rfl, by first | exact bI_nar _ | decide | rfl⟩ ⟨congrArg (fun z => some (Value.int z)) ?_, ?_⟩
    · simp_all [bI]
    · rfl
def mMany (S : Nat → Nat) (a : Nat) : Nat := cnt (fun v => decide (S (5 + 4 * v + 0) = a)) (S 0)
abbrev rm_X4_many : Room := { frames := 1, cells := 0, slots := 0, locals := 22 }
set_option maxHeartbeats 4000000 in
set_option maxRecDepth 20000 in
theorem c_X4_many {l : Launch} {g : Geo} {w : WD} {V : Nat → Nat → Nat} {S : Nat → Nat} {a : Nat} (ha : a < 2 ^ 31) (hB : bS S) : CtI l g yX4_many cX4_many 4 (some .int) rm_X4_many [.ref (g_ad g 9 0), .int (nI a)] (mW w V S) (nI (mMany S a)) (mW w V S) := by
  refine ct_of mi_X4_many.2.2.2.2.2 ⟨rfl, rfl⟩ (List.forall_mem_cons.mpr ⟨rfl, List.forall_mem_cons.mpr ⟨rfl, fun _ h => absurd h List.not_mem_nil⟩⟩) (Nat.le_of_ble_eq_true rfl) (fun P hX => ?_)
  replace hX : Gd l g RX4 cX4_many rm_X4_many 4 (some .int) _ _ P := hX
  show P (mW w V S) 0 [some (.ref (g_ad g 9 0)), some (.int (nI a)), none, none] []
  refine pw_iconst hX (k := 0) rfl (by decide) dX4_many_0 (q := 1) rfl ?_
  refine pw_istore_n hX (by decide) dX4_many_1 (q := 2) rfl ?_
  refine pw_iconst hX (k := 0) rfl (by decide) dX4_many_2 (q := 3) rfl ?_
  refine pw_istore_n hX (by decide) dX4_many_3 (q := 4) rfl ?_
  have h7 := hB.2.2.1
  suffices L : ∀ i, i ≤ S 0 → P (mW w V S) 4 [some (.ref (g_ad g 9 0)), some (.int (nI a)), some (.int (nI (cnt (fun v => decide (S (5 + 4 * v + 0) = a)) i))), some (.int (nI i))] [] by exact L 0 (Nat.zero_le _)
  refine loopUp (fun i hi ih => ?_)
  refine pw_iload_n hX rfl dX4_many_4 (q := 5) rfl ?_
  refine pw_aload_n hX rfl dX4_many_5 (q := 6) rfl ?_
  refine pw_getMS hX 0 (by decide) fl_X4_7 rfl dX4_many_6 (q := 9) rfl ?_
  refine pw_iconst hX (k := 0) rfl (by decide) dX4_many_9 (q := 10) rfl ?_
  refine pw_ialdS hX (by omega) dX4_many_10 (q := 11) rfl ?_
  refine pw_icmpN_ge hX (by first | omega | exact bS0 hB | exact bSw hB (by omega) (by omega) (by omega) | exact bSe hB (by omega) (by omega) | exact bS1 hB | exact bS2 hB) (by first | omega | exact bS0 hB | exact bSw hB (by omega) (by omega) (by omega) | exact bSe hB (by omega) (by omega) | exact bS1 hB | exact bS2 hB) (tgt := 38) dX4_many_11 (q := 14) rfl (by decide) (fun h_11 => ?_) (fun h_11 => ?_)
  · refine pw_iload_n hX rfl dX4_many_38 (q := 39) rfl ?_
    refine pw_ireturn hX dX4_many_39 ⟨_, rfl, rfl⟩ ⟨congrArg (fun z => some (Value.int z)) ?_, ?_⟩
    · rw [show i = S 0 by omega]; rfl
    · rfl
  · refine pw_iload_n hX rfl dX4_many_14 (q := 15) rfl ?_
    refine pw_aload_n hX rfl dX4_many_15 (q := 16) rfl ?_
    refine pw_iload_n hX rfl dX4_many_16 (q := 17) rfl ?_
    refine pw_iconst hX (k := 0) rfl (by decide) dX4_many_17 (q := 18) rfl ?_
    refine pw_cvI2 hX dX4_many_18 (q := 21) rfl mi_X4_vi ml_X4_37 rcM ⟨rfl, rfl, by decide, by decide⟩ rfl (Nat.le_of_ble_eq_true rfl) (c_X4_vi (by first | assumption | omega) (by first | assumption | omega)) ?_
    refine pw_iload_n hX rfl dX4_many_21 (q := 22) rfl ?_
    refine pw_icmpN_ne hX (by first | omega | exact bS0 hB | exact bSw hB (by omega) (by omega) (by omega) | exact bSe hB (by omega) (by omega) | exact bS1 hB | exact bS2 hB) (by first | omega | exact bS0 hB | exact bSw hB (by omega) (by omega) (by omega) | exact bSe hB (by omega) (by omega) | exact bS1 hB | exact bS2 hB) (tgt := 29) dX4_many_22 (q := 25) rfl (by decide) (fun h_22 => ?_) (fun h_22 => ?_)
    · refine pw_iconst hX (k := 0) rfl (by decide) dX4_many_29 (q := 30) rfl ?_
      refine pw_iaddN hX dX4_many_30 (q := 31) rfl ?_
      refine pw_istore_n hX (by decide) dX4_many_31 (q := 32) rfl ?_
      refine pw_iinc hX rfl (by decide) (inc1 _) dX4_many_32 (q := 35) rfl ?_
      refine pw_goto hX (tgt := 4) dX4_many_35 (by decide) ?_
      exact pw_eq rfl (by simp_all [lst, cnt]) rfl (ih (by omega))
    · refine pw_iconst hX (k := 1) rfl (by decide) dX4_many_25 (q := 26) rfl ?_
      refine pw_goto hX (tgt := 30) dX4_many_26 (by decide) ?_
      refine pw_iaddN hX dX4_many_30 (q := 31) rfl ?_
      refine pw_istore_n hX (by decide) dX4_many_31 (q := 32) rfl ?_
      refine pw_iinc hX rfl (by decide) (inc1 _) dX4_many_32 (q := 35) rfl ?_
      refine pw_goto hX (tgt := 4) dX4_many_35 (by decide) ?_
      exact pw_eq rfl (by simp_all [lst, cnt]) rfl (ih (by omega))
