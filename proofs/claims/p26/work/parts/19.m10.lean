theorem tw_ac_s : Cond.static arraycopyName ∈ TB := tb_of 162 (by decide +kernel) rfl
theorem tw_ac_n : Cond.native arraycopyName ∈ TB := tb_of 163 (by decide +kernel) rfl
theorem tw_ac_i : Cond.initialized "java/lang/System" ∈ TB := tb_of 14 (by decide +kernel) rfl
theorem tw_max_s : Cond.static Lib.Math.max.name ∈ TB := tb_of 211 (by decide +kernel) rfl
theorem tw_max_i : Cond.initialized "java/lang/Math" ∈ TB := tb_of 15 (by decide +kernel) rfl
theorem tw_max_c : Cond.code Lib.Math.max.name Lib.Math.max.code 2 (some .int) ∈ TB := tb_of 212 (by decide +kernel) rfl
/-- the numbers of a village are small; those of ghosts and of tombs made may be any -/
def bV (V : Nat → Nat → Nat) : Prop := (∀ k i, 1 ≤ k → k ≤ 3 → i < 7 → V k i < 2 ^ 30) ∧ (∀ k i, 5 ≤ k → k ≤ 10 → i < 84 → V k i < 2 ^ 30) ∧ (∀ i, i < 12 → V 11 i < 2 ^ 30) ∧ V 0 0 ≤ 7 ∧ V 0 1 < 2 ^ 30 ∧ V 0 2 < 2 ^ 30
theorem bV7 {V : Nat → Nat → Nat} (h : bV V) {k i : Nat} (h1 : 1 ≤ k ∧ k ≤ 3) (hi : i < 7) : V k i < 2 ^ 31 := by have := h.1 k i h1.1 h1.2 hi; omega
theorem bV84 {V : Nat → Nat → Nat} (h : bV V) {k i : Nat} (h1 : 5 ≤ k ∧ k ≤ 10) (hi : i < 84) : V k i < 2 ^ 31 := by have := h.2.1 k i h1.1 h1.2 hi; omega
theorem bV12 {V : Nat → Nat → Nat} (h : bV V) {i : Nat} (hi : i < 12) : V 11 i < 2 ^ 31 := by have := h.2.2.1 i hi; omega
theorem bV_0 {V : Nat → Nat → Nat} (h : bV V) : V 0 0 < 2 ^ 31 := by have := h.2.2.2.1; omega
theorem bV_1 {V : Nat → Nat → Nat} (h : bV V) : V 0 1 < 2 ^ 31 := by have := h.2.2.2.2.1; omega
theorem bV_2 {V : Nat → Nat → Nat} (h : bV V) : V 0 2 < 2 ^ 31 := by have := h.2.2.2.2.2; omega
theorem inN_lo {lo hi : Nat} (h1 : lo < 2 ^ 31) {v : Int32} (h : v < nI lo) : inN lo hi v = false := by
  unfold inN
  rw [Int32.lt_iff_toInt_lt, nI_toInt h1] at h
  exact decide_eq_false (by omega)
theorem inN_hi {lo hi : Nat} (h1 : hi < 2 ^ 31) {v : Int32} (h : nI hi < v) : inN lo hi v = false := by
  unfold inN
  rw [Int32.lt_iff_toInt_lt, nI_toInt h1] at h
  exact decide_eq_false (by omega)
theorem inN_ok {lo hi : Nat} (h1 : lo < 2 ^ 31) (h2 : hi < 2 ^ 31) {v : Int32} (h : ¬ v < nI lo) (h' : ¬ nI hi < v) : inN lo hi v = true := by
  unfold inN
  rw [Int32.lt_iff_toInt_lt, nI_toInt h1] at h
  rw [Int32.lt_iff_toInt_lt, nI_toInt h2] at h'
  exact decide_eq_true (by omega)
theorem hasN_lo {n : Nat} {v : Int32} (h : v < 0) : hasN n v = false := by
  unfold hasN
  rw [Int32.lt_iff_toInt_lt, show (0 : Int32).toInt = 0 by decide] at h
  exact decide_eq_false (by omega)
theorem hasN_hi {n : Nat} (h1 : n < 2 ^ 31) {v : Int32} (h : nI n ≤ v) : hasN n v = false := by
  unfold hasN
  rw [Int32.le_iff_toInt_le, nI_toInt h1] at h
  exact decide_eq_false (by omega)
theorem hasN_ok {n : Nat} (h1 : n < 2 ^ 31) {v : Int32} (h : ¬ v < 0) (h' : ¬ nI n ≤ v) : hasN n v = true := by
  unfold hasN
  rw [Int32.lt_iff_toInt_lt, show (0 : Int32).toInt = 0 by decide] at h
  rw [Int32.le_iff_toInt_le, nI_toInt h1] at h'
  exact decide_eq_true (by omega)
def kCp (V U : Nat → Nat → Nat) : Nat → Nat → Nat := fun k => if k = 0 then (fun j => if j < 4 then U 0 j else V 0 j) else if k < 12 then U k else V k
def kAw (V : Nat → Nat → Nat) (v : Int32) : Bool := hasN (V 0 0) v && decide (V 1 (ix v) = 0)
def kAs (V : Nat → Nat → Nat) (v : Int32) : Bool := hasN (V 0 0) v && decide (V 1 (ix v) = 1)
def kRum (V : Nat → Nat → Nat) (p : Nat) : Bool := decide (V 5 p ≠ 0 ∧ V 6 p ≠ 3)
def kTmb (V : Nat → Nat → Nat) (p : Nat) : Bool := decide (V 5 p ≠ 0 ∧ V 6 p = 3)
def kDead (V : Nat → Nat → Nat) (v t : Nat) : Bool := kRum V (v * 12 + t) && decide (V 5 (v * 12 + t) < V 11 t)
def kMany (V : Nat → Nat → Nat) (a : Nat) : Nat := cnt (fun v => decide (V 1 v = a)) (V 0 0)
def sm (f : Nat → Nat) : Nat → Nat
  | 0 => 0
  | n + 1 => sm f n + f n
theorem bits_s (p : Nat → Bool) (n : Nat) : bits p (n + 1) = bits p n ||| (if p n = true then 2 ^ n else 0) := rfl
def kWr (V : Nat → Nat → Nat) (v p k : Nat) : Nat → Nat → Nat := vU (vU (vU V 2 v (V 2 v + 1)) 5 p ((V 2 v + 1) * 8 + v)) 6 p k
abbrev rm_X3_place : Room := { frames := 0, cells := 0, slots := 0, locals := 0 }
set_option maxHeartbeats 800000 in
set_option maxRecDepth 20000 in
theorem c_X3_place {l : Launch} {g : Geo} {w : WD} {v t : Nat}  : CtI l g yX3_place cX3_place 2 (some .int) rm_X3_place [.int (nI v), .int (nI t)] (w) (nI (v * 12 + t)) (w) := by
  refine ct_of mi_X3_place.2.2.2.2 ⟨rfl, rfl⟩ (List.forall_mem_cons.mpr ⟨rfl, List.forall_mem_cons.mpr ⟨rfl, fun _ h => absurd h List.not_mem_nil⟩⟩) (Nat.le_of_ble_eq_true rfl) (fun P hX => ?_)
  replace hX : Gd l g RX3 cX3_place rm_X3_place 2 (some .int) _ _ P := hX
  show P (w) 0 [some (.int (nI v)), some (.int (nI t))] []
  refine pw_iload_n hX rfl dX3_place_0 (q := 1) rfl ?_
  refine pw_bipush hX (k := 12) (by decide) dX3_place_1 (q := 3) rfl ?_
  refine pw_imulN hX dX3_place_3 (q := 4) rfl ?_
  refine pw_iload_n hX rfl dX3_place_4 (q := 5) rfl ?_
  refine pw_iaddN hX dX3_place_5 (q := 6) rfl ?_
  refine pw_ireturn hX dX3_place_6 ⟨_, rfl, rfl⟩ ⟨congrArg (fun z => some (Value.int z)) ?_, ?_⟩
  · rfl
  · rfl
abbrev rm_X3_isTopic : Room := { frames := 0, cells := 0, slots := 0, locals := 0 }
set_option maxHeartbeats 800000 in
set_option maxRecDepth 20000 in
theorem c_X3_isTopic {l : Launch} {g : Geo} {w : WD} {v : Int32}  : CtI l g yX3_isTopic cX3_isTopic 1 (some .boolean) rm_X3_isTopic [.int v] (w) (bI (hasN 12 v)) (w) := by
  refine ct_of mi_X3_isTopic.2.2.2.2 ⟨rfl, rfl⟩ (List.forall_mem_cons.mpr ⟨rfl, fun _ h => absurd h List.not_mem_nil⟩) (Nat.le_of_ble_eq_true rfl) (fun P hX => ?_)
  replace hX : Gd l g RX3 cX3_isTopic rm_X3_isTopic 1 (some .boolean) _ _ P := hX
  show P (w) 0 [some (.int v)] []
  refine pw_iload_n hX rfl dX3_isTopic_0 (q := 1) rfl ?_
  refine pw_if_lt hX (tgt := 14) dX3_isTopic_1 (q := 4) rfl (by decide) (fun h_1 => ?_) (fun h_1 => ?_)
  · refine pw_iconst hX (k := 0) rfl (by decide) dX3_isTopic_14 (q := 15) rfl ?_
    refine pw_ireturn hX dX3_isTopic_15 ⟨_, rfl, by first | exact bI_nar _ | decide | rfl⟩ ⟨congrArg (fun z => some (Value.int z)) ?_, ?_⟩
    · first | (rw [hasN_lo h_1]; rfl) | (rw [hasN_hi (by decide) h_7]; rfl) | (rw [hasN_ok (by decide) h_1 h_7]; rfl)
    · rfl
  · refine pw_iload_n hX rfl dX3_isTopic_4 (q := 5) rfl ?_
    refine pw_bipush hX (k := 12) (by decide) dX3_isTopic_5 (q := 7) rfl ?_
    refine pw_icmp_ge hX (tgt := 14) dX3_isTopic_7 (q := 10) rfl (by decide) (fun h_7 => ?_) (fun h_7 => ?_)
    · refine pw_iconst hX (k := 0) rfl (by decide) dX3_isTopic_14 (q := 15) rfl ?_
      refine pw_ireturn hX dX3_isTopic_15 ⟨_, rfl, by first | exact bI_nar _ | decide | rfl⟩ ⟨congrArg (fun z => some (Value.int z)) ?_, ?_⟩
      · first | (rw [hasN_lo h_1]; rfl) | (rw [hasN_hi (by decide) h_7]; rfl) | (rw [hasN_ok (by decide) h_1 h_7]; rfl)
      · rfl
    · refine pw_iconst hX (k := 1) rfl (by decide) dX3_isTopic_10 (q := 11) rfl ?_
      refine pw_goto hX (tgt := 15) dX3_isTopic_11 (by decide) ?_
      refine pw_ireturn hX dX3_isTopic_15 ⟨_, rfl, by first | exact bI_nar _ | decide | rfl⟩ ⟨congrArg (fun z => some (Value.int z)) ?_, ?_⟩
      · first | (rw [hasN_lo h_1]; rfl) | (rw [hasN_hi (by decide) h_7]; rfl) | (rw [hasN_ok (by decide) h_1 h_7]; rfl)
      · rfl
abbrev rm_X2_copyRow : Room := { frames := 1, cells := 0, slots := 0, locals := 26 }
set_option maxHeartbeats 800000 in
set_option maxRecDepth 20000 in
theorem c_X2_copyRow {l : Launch} {g : Geo} {w : WD} {o1 k1 o2 k2 n : Nat} (hz1 : (o1, k1) ∈ g_dm g) (hk1 : k1 ≠ 0) (h81 : o1 ≠ 8) (hc1 : g_ch o1 k1 = false) (hl1 : g_ln o1 k1 = n) (hz2 : (o2, k2) ∈ g_dm g) (hk2 : k2 ≠ 0) (h82 : o2 ≠ 8) (hc2 : g_ch o2 k2 = false) (hl2 : g_ln o2 k2 = n) : CtV l g yX2_copyRow cX2_copyRow 3 none rm_X2_copyRow [.ref (g_ad g o1 k1), .ref (g_ad g o2 k2), .int (nI n)] (w) (wA w o2 k2 (w.1 o1 k1)) := by
  refine ct_of mi_X2_copyRow.2.2.2.2 ⟨rfl, rfl⟩ (List.forall_mem_cons.mpr ⟨rfl, List.forall_mem_cons.mpr ⟨rfl, List.forall_mem_cons.mpr ⟨rfl, fun _ h => absurd h List.not_mem_nil⟩⟩⟩) (Nat.le_of_ble_eq_true rfl) (fun P hX => ?_)
  replace hX : Gd l g RX2 cX2_copyRow rm_X2_copyRow 3 none _ _ P := hX
  show P (w) 0 [some (.ref (g_ad g o1 k1)), some (.ref (g_ad g o2 k2)), some (.int (nI n))] []
  refine pw_aload_n hX rfl dX2_copyRow_0 (q := 1) rfl ?_
  refine pw_iconst hX (k := 0) rfl (by decide) dX2_copyRow_1 (q := 2) rfl ?_
  refine pw_aload_n hX rfl dX2_copyRow_2 (q := 3) rfl ?_
  refine pw_iconst hX (k := 0) rfl (by decide) dX2_copyRow_3 (q := 4) rfl ?_
  refine pw_iload_n hX rfl dX2_copyRow_4 (q := 5) rfl ?_
  refine pw_copy hX dX2_copyRow_5 (q := 8) rfl ml_X2_62 tw_ac_n tw_ac_s tw_ac_i hz1 hk1 h81 hc1 hl1 hz2 hk2 h82 hc2 hl2 rfl rfl rfl (by decide) (Nat.le_of_ble_eq_true rfl) ?_
  refine pw_return hX dX2_copyRow_8 rfl ⟨rfl, ?_⟩
  rfl
abbrev rm_X2_has : Room := { frames := 0, cells := 0, slots := 0, locals := 0 }
set_option maxHeartbeats 800000 in
set_option maxRecDepth 20000 in
theorem c_X2_has {l : Launch} {g : Geo} {w : WD} {V : Nat → Nat → Nat} {o : Nat} {v : Int32} (ho : o < 7) (hV : bV V) : CtI l g yX2_has cX2_has 2 (some .boolean) rm_X2_has [.ref (g_ad g o 0), .int v] (wO w o V) (bI (hasN (V 0 0) v)) (wO w o V) := by
  refine ct_of mi_X2_has.2.2.2.2.2 ⟨rfl, rfl⟩ (List.forall_mem_cons.mpr ⟨rfl, List.forall_mem_cons.mpr ⟨rfl, fun _ h => absurd h List.not_mem_nil⟩⟩) (Nat.le_of_ble_eq_true rfl) (fun P hX => ?_)
  replace hX : Gd l g RX2 cX2_has rm_X2_has 2 (some .boolean) _ _ P := hX
  show P (wO w o V) 0 [some (.ref (g_ad g o 0)), some (.int v)] []
  refine pw_iload_n hX rfl dX2_has_0 (q := 1) rfl ?_
  refine pw_if_lt hX (tgt := 16) dX2_has_1 (q := 4) rfl (by decide) (fun h_1 => ?_) (fun h_1 => ?_)
  · refine pw_iconst hX (k := 0) rfl (by decide) dX2_has_16 (q := 17) rfl ?_
    refine pw_ireturn hX dX2_has_17 ⟨_, rfl, by first | exact bI_nar _ | decide | rfl⟩ ⟨congrArg (fun z => some (Value.int z)) ?_, ?_⟩
    · first | (rw [hasN_lo h_1]; rfl) | (rw [hasN_hi (bV_0 hV) h_9]; rfl) | (rw [hasN_ok (bV_0 hV) h_1 h_9]; rfl)
    · rfl
  · refine pw_iload_n hX rfl dX2_has_4 (q := 5) rfl ?_
    refine pw_aload_n hX rfl dX2_has_5 (q := 6) rfl ?_
    refine pw_getVF hX ho 0 (by decide) fl_X2_9 rfl dX2_has_6 (q := 9) rfl ?_
    refine pw_icmp_ge hX (tgt := 16) dX2_has_9 (q := 12) rfl (by decide) (fun h_9 => ?_) (fun h_9 => ?_)
    · refine pw_iconst hX (k := 0) rfl (by decide) dX2_has_16 (q := 17) rfl ?_
      refine pw_ireturn hX dX2_has_17 ⟨_, rfl, by first | exact bI_nar _ | decide | rfl⟩ ⟨congrArg (fun z => some (Value.int z)) ?_, ?_⟩
      · first | (rw [hasN_lo h_1]; rfl) | (rw [hasN_hi (bV_0 hV) h_9]; rfl) | (rw [hasN_ok (bV_0 hV) h_1 h_9]; rfl)
      · rfl
    · refine pw_iconst hX (k := 1) rfl (by decide) dX2_has_12 (q := 13) rfl ?_
      refine pw_goto hX (tgt := 17) dX2_has_13 (by decide) ?_
      refine pw_ireturn hX dX2_has_17 ⟨_, rfl, by first | exact bI_nar _ | decide | rfl⟩ ⟨congrArg (fun z => some (Value.int z)) ?_, ?_⟩
      · first | (rw [hasN_lo h_1]; rfl) | (rw [hasN_hi (bV_0 hV) h_9]; rfl) | (rw [hasN_ok (bV_0 hV) h_1 h_9]; rfl)
      · rfl
abbrev rm_X2_isAwake : Room := { frames := 1, cells := 0, slots := 0, locals := 21 }
set_option maxHeartbeats 800000 in
set_option maxRecDepth 20000 in
theorem c_X2_isAwake {l : Launch} {g : Geo} {w : WD} {V : Nat → Nat → Nat} {o : Nat} {v : Int32} (ho : o < 7) (hV : bV V) : CtI l g yX2_isAwake cX2_isAwake 2 (some .boolean) rm_X2_isAwake [.ref (g_ad g o 0), .int v] (wO w o V) (bI (kAw V v)) (wO w o V) := by
  refine ct_of mi_X2_isAwake.2.2.2.2.2 ⟨rfl, rfl⟩ (List.forall_mem_cons.mpr ⟨rfl, List.forall_mem_cons.mpr ⟨rfl, fun _ h => absurd h List.not_mem_nil⟩⟩) (Nat.le_of_ble_eq_true rfl) (fun P hX => ?_)
  replace hX : Gd l g RX2 cX2_isAwake rm_X2_isAwake 2 (some .boolean) _ _ P := hX
  show P (wO w o V) 0 [some (.ref (g_ad g o 0)), some (.int v)] []
  refine pw_aload_n hX rfl dX2_isAwake_0 (q := 1) rfl ?_
  refine pw_iload_n hX rfl dX2_isAwake_1 (q := 2) rfl ?_
  refine pw_cvI1 hX dX2_isAwake_2 (q := 5) rfl mi_X2_has ml_X2_68 (rcV ho) ⟨rfl, rfl, by decide, by decide⟩ rfl (Nat.le_of_ble_eq_true rfl) (c_X2_has (by first | assumption | omega) (by first | assumption | omega)) ?_
  refine pw_ifB_eq hX (tgt := 21) dX2_isAwake_5 (q := 8) rfl (by decide) (fun h_5 => ?_) (fun h_5 => ?_)
  · refine pw_iconst hX (k := 0) rfl (by decide) dX2_isAwake_21 (q := 22) rfl ?_
    refine pw_ireturn hX dX2_isAwake_22 ⟨_, rfl, by first | exact bI_nar _ | decide | rfl⟩ ⟨congrArg (fun z => some (Value.int z)) ?_, ?_⟩
    · rw [kAw]; first | (rw [h_5, hx, decide_eq_true h_14]; rfl) | (rw [h_5, hx, decide_eq_false h_14]; rfl) | (rw [h_5]; rfl)
    · rfl
  · obtain ⟨i, hi, rfl⟩ := hasN_of (bV_0 hV) h_5
    have hx : ix (nI i) = i := ix_nI (by have := hV.2.2.2.1; omega)
    have h7 := hV.2.2.2.1
    refine pw_aload_n hX rfl dX2_isAwake_8 (q := 9) rfl ?_
    refine pw_getVF hX ho 4 (by decide) fl_X2_24 rfl dX2_isAwake_9 (q := 12) rfl ?_
    refine pw_iload_n hX rfl dX2_isAwake_12 (q := 13) rfl ?_
    refine pw_ialdVF hX ho 1 (by decide) (show _ < 7 by omega) dX2_isAwake_13 (q := 14) rfl ?_
    refine pw_ifN_ne hX (by first | omega | exact bV_0 hV | exact bV7 hV (by decide) (by omega) | exact bV84 hV (by decide) (by omega) | exact bV12 hV (by omega) | exact bV_1 hV | exact bV_2 hV) (tgt := 21) dX2_isAwake_14 (q := 17) rfl (by decide) (fun h_14 => ?_) (fun h_14 => ?_)
    · refine pw_iconst hX (k := 0) rfl (by decide) dX2_isAwake_21 (q := 22) rfl ?_
      refine pw_ireturn hX dX2_isAwake_22 ⟨_, rfl, by first | exact bI_nar _ | decide | rfl⟩ ⟨congrArg (fun z => some (Value.int z)) ?_, ?_⟩
      · rw [kAw]; first | (rw [h_5, hx, decide_eq_true h_14]; rfl) | (rw [h_5, hx, decide_eq_false h_14]; rfl) | (rw [h_5]; rfl)
      · rfl
    · refine pw_iconst hX (k := 1) rfl (by decide) dX2_isAwake_17 (q := 18) rfl ?_
      refine pw_goto hX (tgt := 22) dX2_isAwake_18 (by decide) ?_
      refine pw_ireturn hX dX2_isAwake_22 ⟨_, rfl, by first | exact bI_nar _ | decide | rfl⟩ ⟨congrArg (fun z => some (Value.int z)) ?_, ?_⟩
      · rw [kAw]; first | (rw [h_5, hx, decide_eq_true h_14]; rfl) | (rw [h_5, hx, decide_eq_false h_14]; rfl) | (rw [h_5]; rfl)
      · rfl
abbrev rm_X2_isAsleep : Room := { frames := 1, cells := 0, slots := 0, locals := 21 }
set_option maxHeartbeats 800000 in
set_option maxRecDepth 20000 in
theorem c_X2_isAsleep {l : Launch} {g : Geo} {w : WD} {V : Nat → Nat → Nat} {o : Nat} {v : Int32} (ho : o < 7) (hV : bV V) : CtI l g yX2_isAsleep cX2_isAsleep 2 (some .boolean) rm_X2_isAsleep [.ref (g_ad g o 0), .int v] (wO w o V) (bI (kAs V v)) (wO w o V) := by
  refine ct_of mi_X2_isAsleep.2.2.2.2.2 ⟨rfl, rfl⟩ (List.forall_mem_cons.mpr ⟨rfl, List.forall_mem_cons.mpr ⟨rfl, fun _ h => absurd h List.not_mem_nil⟩⟩) (Nat.le_of_ble_eq_true rfl) (fun P hX => ?_)
  replace hX : Gd l g RX2 cX2_isAsleep rm_X2_isAsleep 2 (some .boolean) _ _ P := hX
  show P (wO w o V) 0 [some (.ref (g_ad g o 0)), some (.int v)] []
  refine pw_aload_n hX rfl dX2_isAsleep_0 (q := 1) rfl ?_
  refine pw_iload_n hX rfl dX2_isAsleep_1 (q := 2) rfl ?_
  refine pw_cvI1 hX dX2_isAsleep_2 (q := 5) rfl mi_X2_has ml_X2_68 (rcV ho) ⟨rfl, rfl, by decide, by decide⟩ rfl (Nat.le_of_ble_eq_true rfl) (c_X2_has (by first | assumption | omega) (by first | assumption | omega)) ?_
  refine pw_ifB_eq hX (tgt := 22) dX2_isAsleep_5 (q := 8) rfl (by decide) (fun h_5 => ?_) (fun h_5 => ?_)
  · refine pw_iconst hX (k := 0) rfl (by decide) dX2_isAsleep_22 (q := 23) rfl ?_
    refine pw_ireturn hX dX2_isAsleep_23 ⟨_, rfl, by first | exact bI_nar _ | decide | rfl⟩ ⟨congrArg (fun z => some (Value.int z)) ?_, ?_⟩
    · rw [kAs]; first | (rw [h_5, hx, decide_eq_true h_15]; rfl) | (rw [h_5, hx, decide_eq_false h_15]; rfl) | (rw [h_5]; rfl)
    · rfl
  · obtain ⟨i, hi, rfl⟩ := hasN_of (bV_0 hV) h_5
    have hx : ix (nI i) = i := ix_nI (by have := hV.2.2.2.1; omega)
    have h7 := hV.2.2.2.1
    refine pw_aload_n hX rfl dX2_isAsleep_8 (q := 9) rfl ?_
    refine pw_getVF hX ho 4 (by decide) fl_X2_24 rfl dX2_isAsleep_9 (q := 12) rfl ?_
    refine pw_iload_n hX rfl dX2_isAsleep_12 (q := 13) rfl ?_
    refine pw_ialdVF hX ho 1 (by decide) (show _ < 7 by omega) dX2_isAsleep_13 (q := 14) rfl ?_
    refine pw_iconst hX (k := 1) rfl (by decide) dX2_isAsleep_14 (q := 15) rfl ?_
    refine pw_icmpN_ne hX (by first | omega | exact bV_0 hV | exact bV7 hV (by decide) (by omega) | exact bV84 hV (by decide) (by omega) | exact bV12 hV (by omega) | exact bV_1 hV | exact bV_2 hV) (by first | omega | exact bV_0 hV | exact bV7 hV (by decide) (by omega) | exact bV84 hV (by decide) (by omega) | exact bV12 hV (by omega) | exact bV_1 hV | exact bV_2 hV) (tgt := 22) dX2_isAsleep_15 (q := 18) rfl (by decide) (fun h_15 => ?_) (fun h_15 => ?_)
    · refine pw_iconst hX (k := 0) rfl (by decide) dX2_isAsleep_22 (q := 23) rfl ?_
      refine pw_ireturn hX dX2_isAsleep_23 ⟨_, rfl, by first | exact bI_nar _ | decide | rfl⟩ ⟨congrArg (fun z => some (Value.int z)) ?_, ?_⟩
      · rw [kAs]; first | (rw [h_5, hx, decide_eq_true h_15]; rfl) | (rw [h_5, hx, decide_eq_false h_15]; rfl) | (rw [h_5]; rfl)
      · rfl
    · refine pw_iconst hX (k := 1) rfl (by decide) dX2_isAsleep_18 (q := 19) rfl ?_
      refine pw_goto hX (tgt := 23) dX2_isAsleep_19 (by decide) ?_
      refine pw_ireturn hX dX2_isAsleep_23 ⟨_, rfl, by first | exact bI_nar _ | decide | rfl⟩ ⟨congrArg (fun z => some (Value.int z)) ?_, ?_⟩
      · rw [kAs]; first | (rw [h_5, hx, decide_eq_true h_15]; rfl) | (rw [h_5, hx, decide_eq_false h_15]; rfl) | (rw [h_5]; rfl)
      · rfl
abbrev rm_X2_isRumor : Room := { frames := 0, cells := 0, slots := 0, locals := 0 }
set_option maxHeartbeats 800000 in
set_option maxRecDepth 20000 in
theorem c_X2_isRumor {l : Launch} {g : Geo} {w : WD} {V : Nat → Nat → Nat} {o : Nat} {p : Nat} (ho : o < 7) (hV : bV V) (hp : p < 84) : CtI l g yX2_isRumor cX2_isRumor 2 (some .boolean) rm_X2_isRumor [.ref (g_ad g o 0), .int (nI p)] (wO w o V) (bI (kRum V p)) (wO w o V) := by
  refine ct_of mi_X2_isRumor.2.2.2.2.2 ⟨rfl, rfl⟩ (List.forall_mem_cons.mpr ⟨rfl, List.forall_mem_cons.mpr ⟨rfl, fun _ h => absurd h List.not_mem_nil⟩⟩) (Nat.le_of_ble_eq_true rfl) (fun P hX => ?_)
  replace hX : Gd l g RX2 cX2_isRumor rm_X2_isRumor 2 (some .boolean) _ _ P := hX
  show P (wO w o V) 0 [some (.ref (g_ad g o 0)), some (.int (nI p))] []
  refine pw_aload_n hX rfl dX2_isRumor_0 (q := 1) rfl ?_
  refine pw_getVF hX ho 8 (by decide) fl_X2_37 rfl dX2_isRumor_1 (q := 4) rfl ?_
  refine pw_iload_n hX rfl dX2_isRumor_4 (q := 5) rfl ?_
  refine pw_ialdVF hX ho 5 (by decide) (show _ < 84 by omega) dX2_isRumor_5 (q := 6) rfl ?_
  refine pw_ifN_eq hX (by first | omega | exact bV_0 hV | exact bV7 hV (by decide) (by omega) | exact bV84 hV (by decide) (by omega) | exact bV12 hV (by omega) | exact bV_1 hV | exact bV_2 hV) (tgt := 23) dX2_isRumor_6 (q := 9) rfl (by decide) (fun h_6 => ?_) (fun h_6 => ?_)
  · refine pw_iconst hX (k := 0) rfl (by decide) dX2_isRumor_23 (q := 24) rfl ?_
    refine pw_ireturn hX dX2_isRumor_24 ⟨_, rfl, by first | exact bI_nar _ | decide | rfl⟩ ⟨congrArg (fun z => some (Value.int z)) ?_, ?_⟩
    · first | (rw [show kRum V p = false from decide_eq_false (by omega)]; rfl) | (rw [show kRum V p = true from decide_eq_true (by omega)]; rfl)
    · rfl
  · refine pw_aload_n hX rfl dX2_isRumor_9 (q := 10) rfl ?_
    refine pw_getVF hX ho 9 (by decide) fl_X2_40 rfl dX2_isRumor_10 (q := 13) rfl ?_
    refine pw_iload_n hX rfl dX2_isRumor_13 (q := 14) rfl ?_
    refine pw_ialdVF hX ho 6 (by decide) (show _ < 84 by omega) dX2_isRumor_14 (q := 15) rfl ?_
    refine pw_iconst hX (k := 3) rfl (by decide) dX2_isRumor_15 (q := 16) rfl ?_
    refine pw_icmpN_eq hX (by first | omega | exact bV_0 hV | exact bV7 hV (by decide) (by omega) | exact bV84 hV (by decide) (by omega) | exact bV12 hV (by omega) | exact bV_1 hV | exact bV_2 hV) (by first | omega | exact bV_0 hV | exact bV7 hV (by decide) (by omega) | exact bV84 hV (by decide) (by omega) | exact bV12 hV (by omega) | exact bV_1 hV | exact bV_2 hV) (tgt := 23) dX2_isRumor_16 (q := 19) rfl (by decide) (fun h_16 => ?_) (fun h_16 => ?_)
    · refine pw_iconst hX (k := 0) rfl (by decide) dX2_isRumor_23 (q := 24) rfl ?_
      refine pw_ireturn hX dX2_isRumor_24 ⟨_, rfl, by first | exact bI_nar _ | decide | rfl⟩ ⟨congrArg (fun z => some (Value.int z)) ?_, ?_⟩
      · first | (rw [show kRum V p = false from decide_eq_false (by omega)]; rfl) | (rw [show kRum V p = true from decide_eq_true (by omega)]; rfl)
      · rfl
    · refine pw_iconst hX (k := 1) rfl (by decide) dX2_isRumor_19 (q := 20) rfl ?_
      refine pw_goto hX (tgt := 24) dX2_isRumor_20 (by decide) ?_
      refine pw_ireturn hX dX2_isRumor_24 ⟨_, rfl, by first | exact bI_nar _ | decide | rfl⟩ ⟨congrArg (fun z => some (Value.int z)) ?_, ?_⟩
      · first | (rw [show kRum V p = false from decide_eq_false (by omega)]; rfl) | (rw [show kRum V p = true from decide_eq_true (by omega)]; rfl)
      · rfl
abbrev rm_X2_isTomb : Room := { frames := 0, cells := 0, slots := 0, locals := 0 }
set_option maxHeartbeats 800000 in
set_option maxRecDepth 20000 in
theorem c_X2_isTomb {l : Launch} {g : Geo} {w : WD} {V : Nat → Nat → Nat} {o : Nat} {p : Nat} (ho : o < 7) (hV : bV V) (hp : p < 84) : CtI l g yX2_isTomb cX2_isTomb 2 (some .boolean) rm_X2_isTomb [.ref (g_ad g o 0), .int (nI p)] (wO w o V) (bI (kTmb V p)) (wO w o V) := by
  refine ct_of mi_X2_isTomb.2.2.2.2.2 ⟨rfl, rfl⟩ (List.forall_mem_cons.mpr ⟨rfl, List.forall_mem_cons.mpr ⟨rfl, fun _ h => absurd h List.not_mem_nil⟩⟩) (Nat.le_of_ble_eq_true rfl) (fun P hX => ?_)
  replace hX : Gd l g RX2 cX2_isTomb rm_X2_isTomb 2 (some .boolean) _ _ P := hX
  show P (wO w o V) 0 [some (.ref (g_ad g o 0)), some (.int (nI p))] []
  refine pw_aload_n hX rfl dX2_isTomb_0 (q := 1) rfl ?_
  refine pw_getVF hX ho 8 (by decide) fl_X2_37 rfl dX2_isTomb_1 (q := 4) rfl ?_
  refine pw_iload_n hX rfl dX2_isTomb_4 (q := 5) rfl ?_
  refine pw_ialdVF hX ho 5 (by decide) (show _ < 84 by omega) dX2_isTomb_5 (q := 6) rfl ?_
  refine pw_ifN_eq hX (by first | omega | exact bV_0 hV | exact bV7 hV (by decide) (by omega) | exact bV84 hV (by decide) (by omega) | exact bV12 hV (by omega) | exact bV_1 hV | exact bV_2 hV) (tgt := 23) dX2_isTomb_6 (q := 9) rfl (by decide) (fun h_6 => ?_) (fun h_6 => ?_)
  · refine pw_iconst hX (k := 0) rfl (by decide) dX2_isTomb_23 (q := 24) rfl ?_
    refine pw_ireturn hX dX2_isTomb_24 ⟨_, rfl, by first | exact bI_nar _ | decide | rfl⟩ ⟨congrArg (fun z => some (Value.int z)) ?_, ?_⟩
    · first | (rw [show kTmb V p = false from decide_eq_false (by omega)]; rfl) | (rw [show kTmb V p = true from decide_eq_true (by omega)]; rfl)
    · rfl
  · refine pw_aload_n hX rfl dX2_isTomb_9 (q := 10) rfl ?_
    refine pw_getVF hX ho 9 (by decide) fl_X2_40 rfl dX2_isTomb_10 (q := 13) rfl ?_
    refine pw_iload_n hX rfl dX2_isTomb_13 (q := 14) rfl ?_
    refine pw_ialdVF hX ho 6 (by decide) (show _ < 84 by omega) dX2_isTomb_14 (q := 15) rfl ?_
    refine pw_iconst hX (k := 3) rfl (by decide) dX2_isTomb_15 (q := 16) rfl ?_
    refine pw_icmpN_ne hX (by first | omega | exact bV_0 hV | exact bV7 hV (by decide) (by omega) | exact bV84 hV (by decide) (by omega) | exact bV12 hV (by omega) | exact bV_1 hV | exact bV_2 hV) (by first | omega | exact bV_0 hV | exact bV7 hV (by decide) (by omega) | exact bV84 hV (by decide) (by omega) | exact bV12 hV (by omega) | exact bV_1 hV | exact bV_2 hV) (tgt := 23) dX2_isTomb_16 (q := 19) rfl (by decide) (fun h_16 => ?_) (fun h_16 => ?_)
    · refine pw_iconst hX (k := 0) rfl (by decide) dX2_isTomb_23 (q := 24) rfl ?_
      refine pw_ireturn hX dX2_isTomb_24 ⟨_, rfl, by first | exact bI_nar _ | decide | rfl⟩ ⟨congrArg (fun z => some (Value.int z)) ?_, ?_⟩
      · first | (rw [show kTmb V p = false from decide_eq_false (by omega)]; rfl) | (rw [show kTmb V p = true from decide_eq_true (by omega)]; rfl)
      · rfl
    · refine pw_iconst hX (k := 1) rfl (by decide) dX2_isTomb_19 (q := 20) rfl ?_
      refine pw_goto hX (tgt := 24) dX2_isTomb_20 (by decide) ?_
      refine pw_ireturn hX dX2_isTomb_24 ⟨_, rfl, by first | exact bI_nar _ | decide | rfl⟩ ⟨congrArg (fun z => some (Value.int z)) ?_, ?_⟩
      · first | (rw [show kTmb V p = false from decide_eq_false (by omega)]; rfl) | (rw [show kTmb V p = true from decide_eq_true (by omega)]; rfl)
      · rfl
abbrev rm_X2_isDead : Room := { frames := 1, cells := 0, slots := 0, locals := 21 }
set_option maxHeartbeats 800000 in
set_option maxRecDepth 20000 in
theorem c_X2_isDead {l : Launch} {g : Geo} {w : WD} {V : Nat → Nat → Nat} {o : Nat} {v t : Nat} (ho : o < 7) (hV : bV V) (hv : v < 7) (ht : t < 12) : CtI l g yX2_isDead cX2_isDead 4 (some .boolean) rm_X2_isDead [.ref (g_ad g o 0), .int (nI v), .int (nI t)] (wO w o V) (bI (kDead V v t)) (wO w o V) := by
  refine ct_of mi_X2_isDead.2.2.2.2.2 ⟨rfl, rfl⟩ (List.forall_mem_cons.mpr ⟨rfl, List.forall_mem_cons.mpr ⟨rfl, List.forall_mem_cons.mpr ⟨rfl, fun _ h => absurd h List.not_mem_nil⟩⟩⟩) (Nat.le_of_ble_eq_true rfl) (fun P hX => ?_)
  replace hX : Gd l g RX2 cX2_isDead rm_X2_isDead 4 (some .boolean) _ _ P := hX
  show P (wO w o V) 0 [some (.ref (g_ad g o 0)), some (.int (nI v)), some (.int (nI t)), none] []
  refine pw_iload_n hX rfl dX2_isDead_0 (q := 1) rfl ?_
  refine pw_iload_n hX rfl dX2_isDead_1 (q := 2) rfl ?_
  refine pw_cnI2 hX dX2_isDead_2 (q := 5) rfl mi_X3_place mn_X2_88 ⟨rfl, rfl, by decide, by decide⟩ rfl (Nat.le_of_ble_eq_true rfl) (c_X3_place) ?_
  refine pw_istore_n hX (by decide) dX2_isDead_5 (q := 6) rfl ?_
  refine pw_aload_n hX rfl dX2_isDead_6 (q := 7) rfl ?_
  refine pw_iload_n hX rfl dX2_isDead_7 (q := 8) rfl ?_
  refine pw_cvI1 hX dX2_isDead_8 (q := 11) rfl mi_X2_isRumor ml_X2_92 (rcV ho) ⟨rfl, rfl, by decide, by decide⟩ rfl (Nat.le_of_ble_eq_true rfl) (c_X2_isRumor ho hV (by omega)) ?_
  refine pw_ifB_eq hX (tgt := 33) dX2_isDead_11 (q := 14) rfl (by decide) (fun h_11 => ?_) (fun h_11 => ?_)
  · refine pw_iconst hX (k := 0) rfl (by decide) dX2_isDead_33 (q := 34) rfl ?_
    refine pw_ireturn hX dX2_isDead_34 ⟨_, rfl, by first | exact bI_nar _ | decide | rfl⟩ ⟨congrArg (fun z => some (Value.int z)) ?_, ?_⟩
    · rw [kDead]; first | (rw [h_11, decide_eq_false (by omega)]; rfl) | (rw [h_11, decide_eq_true (by omega)]; rfl) | (rw [h_11]; rfl)
    · rfl
  · refine pw_aload_n hX rfl dX2_isDead_14 (q := 15) rfl ?_
    refine pw_getVF hX ho 8 (by decide) fl_X2_37 rfl dX2_isDead_15 (q := 18) rfl ?_
    refine pw_iload_n hX rfl dX2_isDead_18 (q := 19) rfl ?_
    refine pw_ialdVF hX ho 5 (by decide) (show _ < 84 by omega) dX2_isDead_19 (q := 20) rfl ?_
    refine pw_aload_n hX rfl dX2_isDead_20 (q := 21) rfl ?_
    refine pw_getVF hX ho 14 (by decide) fl_X2_55 rfl dX2_isDead_21 (q := 24) rfl ?_
    refine pw_iload_n hX rfl dX2_isDead_24 (q := 25) rfl ?_
    refine pw_ialdVF hX ho 11 (by decide) (show _ < 12 by omega) dX2_isDead_25 (q := 26) rfl ?_
    refine pw_icmpN_ge hX (by first | omega | exact bV_0 hV | exact bV7 hV (by decide) (by omega) | exact bV84 hV (by decide) (by omega) | exact bV12 hV (by omega) | exact bV_1 hV | exact bV_2 hV) (by first | omega | exact bV_0 hV | exact bV7 hV (by decide) (by omega) | exact bV84 hV (by decide) (by omega) | exact bV12 hV (by omega) | exact bV_1 hV | exact bV_2 hV) (tgt := 33) dX2_isDead_26 (q := 29) rfl (by decide) (fun h_26 => ?_) (fun h_26 => ?_)
    · refine pw_iconst hX (k := 0) rfl (by decide) dX2_isDead_33 (q := 34) rfl ?_
      refine pw_ireturn hX dX2_isDead_34 ⟨_, rfl, by first | exact bI_nar _ | decide | rfl⟩ ⟨congrArg (fun z => some (Value.int z)) ?_, ?_⟩
      · rw [kDead]; first | (rw [h_11, decide_eq_false (by omega)]; rfl) | (rw [h_11, decide_eq_true (by omega)]; rfl) | (rw [h_11]; rfl)
      · rfl
    · refine pw_iconst hX (k := 1) rfl (by decide) dX2_isDead_29 (q := 30) rfl ?_
      refine pw_goto hX (tgt := 34) dX2_isDead_30 (by decide) ?_
      refine pw_ireturn hX dX2_isDead_34 ⟨_, rfl, by first | exact bI_nar _ | decide | rfl⟩ ⟨congrArg (fun z => some (Value.int z)) ?_, ?_⟩
      · rw [kDead]; first | (rw [h_11, decide_eq_false (by omega)]; rfl) | (rw [h_11, decide_eq_true (by omega)]; rfl) | (rw [h_11]; rfl)
      · rfl
abbrev rm_X2_author : Room := { frames := 0, cells := 0, slots := 0, locals := 0 }
set_option maxHeartbeats 800000 in
set_option maxRecDepth 20000 in
theorem c_X2_author {l : Launch} {g : Geo} {w : WD} {V : Nat → Nat → Nat} {o : Nat} {p : Nat} (ho : o < 7) (hV : bV V) (hp : p < 84) : CtI l g yX2_author cX2_author 2 (some .int) rm_X2_author [.ref (g_ad g o 0), .int (nI p)] (wO w o V) (nI (V 5 p % 8)) (wO w o V) := by
  refine ct_of mi_X2_author.2.2.2.2.2 ⟨rfl, rfl⟩ (List.forall_mem_cons.mpr ⟨rfl, List.forall_mem_cons.mpr ⟨rfl, fun _ h => absurd h List.not_mem_nil⟩⟩) (Nat.le_of_ble_eq_true rfl) (fun P hX => ?_)
  replace hX : Gd l g RX2 cX2_author rm_X2_author 2 (some .int) _ _ P := hX
  show P (wO w o V) 0 [some (.ref (g_ad g o 0)), some (.int (nI p))] []
  refine pw_aload_n hX rfl dX2_author_0 (q := 1) rfl ?_
  refine pw_getVF hX ho 8 (by decide) fl_X2_37 rfl dX2_author_1 (q := 4) rfl ?_
  refine pw_iload_n hX rfl dX2_author_4 (q := 5) rfl ?_
  refine pw_ialdVF hX ho 5 (by decide) (show _ < 84 by omega) dX2_author_5 (q := 6) rfl ?_
  refine pw_bipush hX (k := 8) (by decide) dX2_author_6 (q := 8) rfl ?_
  refine pw_iremN hX (by first | omega | exact bV_0 hV | exact bV7 hV (by decide) (by omega) | exact bV84 hV (by decide) (by omega) | exact bV12 hV (by omega) | exact bV_1 hV | exact bV_2 hV) (by decide) (by decide) dX2_author_8 (q := 9) rfl ?_
  refine pw_ireturn hX dX2_author_9 ⟨_, rfl, rfl⟩ ⟨congrArg (fun z => some (Value.int z)) ?_, ?_⟩
  · rfl
  · rfl
abbrev rm_X2_rumorTopics : Room := { frames := 1, cells := 0, slots := 0, locals := 21 }
set_option maxHeartbeats 800000 in
set_option maxRecDepth 20000 in
theorem c_X2_rumorTopics {l : Launch} {g : Geo} {w : WD} {V : Nat → Nat → Nat} {o : Nat} {v : Nat} (ho : o < 7) (hV : bV V) (hv : v < 7) : CtI l g yX2_rumorTopics cX2_rumorTopics 4 (some .int) rm_X2_rumorTopics [.ref (g_ad g o 0), .int (nI v)] (wO w o V) (nI (bits (fun t => kRum V (v * 12 + t)) 12)) (wO w o V) := by
  refine ct_of mi_X2_rumorTopics.2.2.2.2.2 ⟨rfl, rfl⟩ (List.forall_mem_cons.mpr ⟨rfl, List.forall_mem_cons.mpr ⟨rfl, fun _ h => absurd h List.not_mem_nil⟩⟩) (Nat.le_of_ble_eq_true rfl) (fun P hX => ?_)
  replace hX : Gd l g RX2 cX2_rumorTopics rm_X2_rumorTopics 4 (some .int) _ _ P := hX
  show P (wO w o V) 0 [some (.ref (g_ad g o 0)), some (.int (nI v)), none, none] []
  refine pw_iconst hX (k := 0) rfl (by decide) dX2_rumorTopics_0 (q := 1) rfl ?_
  refine pw_istore_n hX (by decide) dX2_rumorTopics_1 (q := 2) rfl ?_
  refine pw_iconst hX (k := 0) rfl (by decide) dX2_rumorTopics_2 (q := 3) rfl ?_
  refine pw_istore_n hX (by decide) dX2_rumorTopics_3 (q := 4) rfl ?_
  suffices L : ∀ t, t ≤ 12 → P (wO w o V) 4 [some (.ref (g_ad g o 0)), some (.int (nI v)), some (.int (nI (bits (fun t => kRum V (v * 12 + t)) t))), some (.int (nI t))] [] by exact L 0 (Nat.zero_le _)
  refine loopUp (fun t ht ih => ?_)
  refine pw_iload_n hX rfl dX2_rumorTopics_4 (q := 5) rfl ?_
  refine pw_bipush hX (k := 12) (by decide) dX2_rumorTopics_5 (q := 7) rfl ?_
  refine pw_icmpN_ge hX (by first | omega | exact bV_0 hV | exact bV7 hV (by decide) (by omega) | exact bV84 hV (by decide) (by omega) | exact bV12 hV (by omega) | exact bV_1 hV | exact bV_2 hV) (by first | omega | exact bV_0 hV | exact bV7 hV (by decide) (by omega) | exact bV84 hV (by decide) (by omega) | exact bV12 hV (by omega) | exact bV_1 hV | exact bV_2 hV) (tgt := 34) dX2_rumorTopics_7 (q := 10) rfl (by decide) (fun h_7 => ?_) (fun h_7 => ?_)
  · refine pw_iload_n hX rfl dX2_rumorTopics_34 (q := 35) rfl ?_
    refine pw_ireturn hX dX2_rumorTopics_35 ⟨_, rfl, rfl⟩ ⟨congrArg (fun z => some (Value.int z)) ?_, ?_⟩
    · rw [show t = 12 by omega]
    · rfl
  · refine pw_aload_n hX rfl dX2_rumorTopics_10 (q := 11) rfl ?_
    refine pw_iload_n hX rfl dX2_rumorTopics_11 (q := 12) rfl ?_
    refine pw_iload_n hX rfl dX2_rumorTopics_12 (q := 13) rfl ?_
    refine pw_cnI2 hX dX2_rumorTopics_13 (q := 16) rfl mi_X3_place mn_X2_88 ⟨rfl, rfl, by decide, by decide⟩ rfl (Nat.le_of_ble_eq_true rfl) (c_X3_place) ?_
    refine pw_cvI1 hX dX2_rumorTopics_16 (q := 19) rfl mi_X2_isRumor ml_X2_92 (rcV ho) ⟨rfl, rfl, by decide, by decide⟩ rfl (Nat.le_of_ble_eq_true rfl) (c_X2_isRumor ho hV (by omega)) ?_
    refine pw_ifB_eq hX (tgt := 28) dX2_rumorTopics_19 (q := 22) rfl (by decide) (fun h_19 => ?_) (fun h_19 => ?_)
    · refine pw_iinc hX rfl (by decide) (inc1 _) dX2_rumorTopics_28 (q := 31) rfl ?_
      refine pw_goto hX (tgt := 4) dX2_rumorTopics_31 (by decide) ?_
      exact pw_eq rfl (by simp_all [lst, bits]) rfl (ih (by omega))
    · refine pw_iload_n hX rfl dX2_rumorTopics_22 (q := 23) rfl ?_
      refine pw_iconst hX (k := 1) rfl (by decide) dX2_rumorTopics_23 (q := 24) rfl ?_
      refine pw_iload_n hX rfl dX2_rumorTopics_24 (q := 25) rfl ?_
      refine pw_ishl1 hX (by omega) dX2_rumorTopics_25 (q := 26) rfl ?_
      refine pw_iorN hX dX2_rumorTopics_26 (q := 27) rfl ?_
      refine pw_istore_n hX (by decide) dX2_rumorTopics_27 (q := 28) rfl ?_
      refine pw_iinc hX rfl (by decide) (inc1 _) dX2_rumorTopics_28 (q := 31) rfl ?_
      refine pw_goto hX (tgt := 4) dX2_rumorTopics_31 (by decide) ?_
      exact pw_eq rfl (by simp_all [lst, bits]) rfl (ih (by omega))
abbrev rm_X2_tombTopics : Room := { frames := 1, cells := 0, slots := 0, locals := 21 }
set_option maxHeartbeats 800000 in
set_option maxRecDepth 20000 in
theorem c_X2_tombTopics {l : Launch} {g : Geo} {w : WD} {V : Nat → Nat → Nat} {o : Nat} {v : Nat} (ho : o < 7) (hV : bV V) (hv : v < 7) : CtI l g yX2_tombTopics cX2_tombTopics 4 (some .int) rm_X2_tombTopics [.ref (g_ad g o 0), .int (nI v)] (wO w o V) (nI (bits (fun t => kTmb V (v * 12 + t)) 12)) (wO w o V) := by
  refine ct_of mi_X2_tombTopics.2.2.2.2.2 ⟨rfl, rfl⟩ (List.forall_mem_cons.mpr ⟨rfl, List.forall_mem_cons.mpr ⟨rfl, fun _ h => absurd h List.not_mem_nil⟩⟩) (Nat.le_of_ble_eq_true rfl) (fun P hX => ?_)
  replace hX : Gd l g RX2 cX2_tombTopics rm_X2_tombTopics 4 (some .int) _ _ P := hX
  show P (wO w o V) 0 [some (.ref (g_ad g o 0)), some (.int (nI v)), none, none] []
  refine pw_iconst hX (k := 0) rfl (by decide) dX2_tombTopics_0 (q := 1) rfl ?_
  refine pw_istore_n hX (by decide) dX2_tombTopics_1 (q := 2) rfl ?_
  refine pw_iconst hX (k := 0) rfl (by decide) dX2_tombTopics_2 (q := 3) rfl ?_
  refine pw_istore_n hX (by decide) dX2_tombTopics_3 (q := 4) rfl ?_
  suffices L : ∀ t, t ≤ 12 → P (wO w o V) 4 [some (.ref (g_ad g o 0)), some (.int (nI v)), some (.int (nI (bits (fun t => kTmb V (v * 12 + t)) t))), some (.int (nI t))] [] by exact L 0 (Nat.zero_le _)
  refine loopUp (fun t ht ih => ?_)
  refine pw_iload_n hX rfl dX2_tombTopics_4 (q := 5) rfl ?_
  refine pw_bipush hX (k := 12) (by decide) dX2_tombTopics_5 (q := 7) rfl ?_
  refine pw_icmpN_ge hX (by first | omega | exact bV_0 hV | exact bV7 hV (by decide) (by omega) | exact bV84 hV (by decide) (by omega) | exact bV12 hV (by omega) | exact bV_1 hV | exact bV_2 hV) (by first | omega | exact bV_0 hV | exact bV7 hV (by decide) (by omega) | exact bV84 hV (by decide) (by omega) | exact bV12 hV (by omega) | exact bV_1 hV | exact bV_2 hV) (tgt := 34) dX2_tombTopics_7 (q := 10) rfl (by decide) (fun h_7 => ?_) (fun h_7 => ?_)
  · refine pw_iload_n hX rfl dX2_tombTopics_34 (q := 35) rfl ?_
    refine pw_ireturn hX dX2_tombTopics_35 ⟨_, rfl, rfl⟩ ⟨congrArg (fun z => some (Value.int z)) ?_, ?_⟩
    · rw [show t = 12 by omega]
    · rfl
  · refine pw_aload_n hX rfl dX2_tombTopics_10 (q := 11) rfl ?_
    refine pw_iload_n hX rfl dX2_tombTopics_11 (q := 12) rfl ?_
    refine pw_iload_n hX rfl dX2_tombTopics_12 (q := 13) rfl ?_
    refine pw_cnI2 hX dX2_tombTopics_13 (q := 16) rfl mi_X3_place mn_X2_88 ⟨rfl, rfl, by decide, by decide⟩ rfl (Nat.le_of_ble_eq_true rfl) (c_X3_place) ?_
    refine pw_cvI1 hX dX2_tombTopics_16 (q := 19) rfl mi_X2_isTomb ml_X2_95 (rcV ho) ⟨rfl, rfl, by decide, by decide⟩ rfl (Nat.le_of_ble_eq_true rfl) (c_X2_isTomb ho hV (by omega)) ?_
    refine pw_ifB_eq hX (tgt := 28) dX2_tombTopics_19 (q := 22) rfl (by decide) (fun h_19 => ?_) (fun h_19 => ?_)
    · refine pw_iinc hX rfl (by decide) (inc1 _) dX2_tombTopics_28 (q := 31) rfl ?_
      refine pw_goto hX (tgt := 4) dX2_tombTopics_31 (by decide) ?_
      exact pw_eq rfl (by simp_all [lst, bits]) rfl (ih (by omega))
    · refine pw_iload_n hX rfl dX2_tombTopics_22 (q := 23) rfl ?_
      refine pw_iconst hX (k := 1) rfl (by decide) dX2_tombTopics_23 (q := 24) rfl ?_
      refine pw_iload_n hX rfl dX2_tombTopics_24 (q := 25) rfl ?_
      refine pw_ishl1 hX (by omega) dX2_tombTopics_25 (q := 26) rfl ?_
      refine pw_iorN hX dX2_tombTopics_26 (q := 27) rfl ?_
      refine pw_istore_n hX (by decide) dX2_tombTopics_27 (q := 28) rfl ?_
      refine pw_iinc hX rfl (by decide) (inc1 _) dX2_tombTopics_28 (q := 31) rfl ?_
      refine pw_goto hX (tgt := 4) dX2_tombTopics_31 (by decide) ?_
      exact pw_eq rfl (by simp_all [lst, bits]) rfl (ih (by omega))
abbrev rm_X2_deadTopics : Room := { frames := 2, cells := 0, slots := 0, locals := 44 }
set_option maxHeartbeats 800000 in
set_option maxRecDepth 20000 in
theorem c_X2_deadTopics {l : Launch} {g : Geo} {w : WD} {V : Nat → Nat → Nat} {o : Nat} {v : Nat} (ho : o < 7) (hV : bV V) (hv : v < 7) : CtI l g yX2_deadTopics cX2_deadTopics 4 (some .int) rm_X2_deadTopics [.ref (g_ad g o 0), .int (nI v)] (wO w o V) (nI (bits (fun t => kDead V v t) 12)) (wO w o V) := by
  refine ct_of mi_X2_deadTopics.2.2.2.2.2 ⟨rfl, rfl⟩ (List.forall_mem_cons.mpr ⟨rfl, List.forall_mem_cons.mpr ⟨rfl, fun _ h => absurd h List.not_mem_nil⟩⟩) (Nat.le_of_ble_eq_true rfl) (fun P hX => ?_)
  replace hX : Gd l g RX2 cX2_deadTopics rm_X2_deadTopics 4 (some .int) _ _ P := hX
  show P (wO w o V) 0 [some (.ref (g_ad g o 0)), some (.int (nI v)), none, none] []
  refine pw_iconst hX (k := 0) rfl (by decide) dX2_deadTopics_0 (q := 1) rfl ?_
  refine pw_istore_n hX (by decide) dX2_deadTopics_1 (q := 2) rfl ?_
  refine pw_iconst hX (k := 0) rfl (by decide) dX2_deadTopics_2 (q := 3) rfl ?_
  refine pw_istore_n hX (by decide) dX2_deadTopics_3 (q := 4) rfl ?_
  suffices L : ∀ t, t ≤ 12 → P (wO w o V) 4 [some (.ref (g_ad g o 0)), some (.int (nI v)), some (.int (nI (bits (fun t => kDead V v t) t))), some (.int (nI t))] [] by exact L 0 (Nat.zero_le _)
  refine loopUp (fun t ht ih => ?_)
  refine pw_iload_n hX rfl dX2_deadTopics_4 (q := 5) rfl ?_
  refine pw_bipush hX (k := 12) (by decide) dX2_deadTopics_5 (q := 7) rfl ?_
  refine pw_icmpN_ge hX (by first | omega | exact bV_0 hV | exact bV7 hV (by decide) (by omega) | exact bV84 hV (by decide) (by omega) | exact bV12 hV (by omega) | exact bV_1 hV | exact bV_2 hV) (by first | omega | exact bV_0 hV | exact bV7 hV (by decide) (by omega) | exact bV84 hV (by decide) (by omega) | exact bV12 hV (by omega) | exact bV_1 hV | exact bV_2 hV) (tgt := 31) dX2_deadTopics_7 (q := 10) rfl (by decide) (fun h_7 => ?_) (fun h_7 => ?_)
  · refine pw_iload_n hX rfl dX2_deadTopics_31 (q := 32) rfl ?_
    refine pw_ireturn hX dX2_deadTopics_32 ⟨_, rfl, rfl⟩ ⟨congrArg (fun z => some (Value.int z)) ?_, ?_⟩
    · rw [show t = 12 by omega]
    · rfl
  · refine pw_aload_n hX rfl dX2_deadTopics_10 (q := 11) rfl ?_
    refine pw_iload_n hX rfl dX2_deadTopics_11 (q := 12) rfl ?_
    refine pw_iload_n hX rfl dX2_deadTopics_12 (q := 13) rfl ?_
    refine pw_cvI2 hX dX2_deadTopics_13 (q := 16) rfl mi_X2_isDead ml_X2_98 (rcV ho) ⟨rfl, rfl, by decide, by decide⟩ rfl (Nat.le_of_ble_eq_true rfl) (c_X2_isDead ho hV hv (by omega)) ?_
    refine pw_ifB_eq hX (tgt := 25) dX2_deadTopics_16 (q := 19) rfl (by decide) (fun h_16 => ?_) (fun h_16 => ?_)
    · refine pw_iinc hX rfl (by decide) (inc1 _) dX2_deadTopics_25 (q := 28) rfl ?_
      refine pw_goto hX (tgt := 4) dX2_deadTopics_28 (by decide) ?_
      exact pw_eq rfl (by simp_all [lst, bits]) rfl (ih (by omega))
    · refine pw_iload_n hX rfl dX2_deadTopics_19 (q := 20) rfl ?_
      refine pw_iconst hX (k := 1) rfl (by decide) dX2_deadTopics_20 (q := 21) rfl ?_
      refine pw_iload_n hX rfl dX2_deadTopics_21 (q := 22) rfl ?_
      refine pw_ishl1 hX (by omega) dX2_deadTopics_22 (q := 23) rfl ?_
      refine pw_iorN hX dX2_deadTopics_23 (q := 24) rfl ?_
      refine pw_istore_n hX (by decide) dX2_deadTopics_24 (q := 25) rfl ?_
      refine pw_iinc hX rfl (by decide) (inc1 _) dX2_deadTopics_25 (q := 28) rfl ?_
      refine pw_goto hX (tgt := 4) dX2_deadTopics_28 (by decide) ?_
      exact pw_eq rfl (by simp_all [lst, bits]) rfl (ih (by omega))
abbrev rm_X2_unlikeTopics : Room := { frames := 1, cells := 0, slots := 0, locals := 21 }
set_option maxHeartbeats 800000 in
set_option maxRecDepth 20000 in
theorem c_X2_unlikeTopics {l : Launch} {g : Geo} {w : WD} {V : Nat → Nat → Nat} {o : Nat} {v u : Nat} (ho : o < 7) (hV : bV V) (hv : v < 7) (hu : u < 7) : CtI l g yX2_unlikeTopics cX2_unlikeTopics 5 (some .int) rm_X2_unlikeTopics [.ref (g_ad g o 0), .int (nI v), .int (nI u)] (wO w o V) (nI (bits (fun t => !(decide (V 5 (v * 12 + t) = V 5 (u * 12 + t)))) 12)) (wO w o V) := by
  refine ct_of mi_X2_unlikeTopics.2.2.2.2.2 ⟨rfl, rfl⟩ (List.forall_mem_cons.mpr ⟨rfl, List.forall_mem_cons.mpr ⟨rfl, List.forall_mem_cons.mpr ⟨rfl, fun _ h => absurd h List.not_mem_nil⟩⟩⟩) (Nat.le_of_ble_eq_true rfl) (fun P hX => ?_)
  replace hX : Gd l g RX2 cX2_unlikeTopics rm_X2_unlikeTopics 5 (some .int) _ _ P := hX
  show P (wO w o V) 0 [some (.ref (g_ad g o 0)), some (.int (nI v)), some (.int (nI u)), none, none] []
  refine pw_iconst hX (k := 0) rfl (by decide) dX2_unlikeTopics_0 (q := 1) rfl ?_
  refine pw_istore_n hX (by decide) dX2_unlikeTopics_1 (q := 2) rfl ?_
  refine pw_iconst hX (k := 0) rfl (by decide) dX2_unlikeTopics_2 (q := 3) rfl ?_
  refine pw_istore hX (by decide) dX2_unlikeTopics_3 (q := 5) rfl ?_
  suffices L : ∀ t, t ≤ 12 → P (wO w o V) 5 [some (.ref (g_ad g o 0)), some (.int (nI v)), some (.int (nI u)), some (.int (nI (bits (fun t => !(decide (V 5 (v * 12 + t) = V 5 (u * 12 + t)))) t))), some (.int (nI t))] [] by exact L 0 (Nat.zero_le _)
  refine loopUp (fun t ht ih => ?_)
  refine pw_iload hX rfl dX2_unlikeTopics_5 (q := 7) rfl ?_
  refine pw_bipush hX (k := 12) (by decide) dX2_unlikeTopics_7 (q := 9) rfl ?_
  refine pw_icmpN_ge hX (by first | omega | exact bV_0 hV | exact bV7 hV (by decide) (by omega) | exact bV84 hV (by decide) (by omega) | exact bV12 hV (by omega) | exact bV_1 hV | exact bV_2 hV) (by first | omega | exact bV_0 hV | exact bV7 hV (by decide) (by omega) | exact bV84 hV (by decide) (by omega) | exact bV12 hV (by omega) | exact bV_1 hV | exact bV_2 hV) (tgt := 50) dX2_unlikeTopics_9 (q := 12) rfl (by decide) (fun h_9 => ?_) (fun h_9 => ?_)
  · refine pw_iload_n hX rfl dX2_unlikeTopics_50 (q := 51) rfl ?_
    refine pw_ireturn hX dX2_unlikeTopics_51 ⟨_, rfl, rfl⟩ ⟨congrArg (fun z => some (Value.int z)) ?_, ?_⟩
    · rw [show t = 12 by omega]
    · rfl
  · refine pw_aload_n hX rfl dX2_unlikeTopics_12 (q := 13) rfl ?_
    refine pw_getVF hX ho 8 (by decide) fl_X2_37 rfl dX2_unlikeTopics_13 (q := 16) rfl ?_
    refine pw_iload_n hX rfl dX2_unlikeTopics_16 (q := 17) rfl ?_
    refine pw_iload hX rfl dX2_unlikeTopics_17 (q := 19) rfl ?_
    refine pw_cnI2 hX dX2_unlikeTopics_19 (q := 22) rfl mi_X3_place mn_X2_88 ⟨rfl, rfl, by decide, by decide⟩ rfl (Nat.le_of_ble_eq_true rfl) (c_X3_place) ?_
    refine pw_ialdVF hX ho 5 (by decide) (show _ < 84 by omega) dX2_unlikeTopics_22 (q := 23) rfl ?_
    refine pw_aload_n hX rfl dX2_unlikeTopics_23 (q := 24) rfl ?_
    refine pw_getVF hX ho 8 (by decide) fl_X2_37 rfl dX2_unlikeTopics_24 (q := 27) rfl ?_
    refine pw_iload_n hX rfl dX2_unlikeTopics_27 (q := 28) rfl ?_
    refine pw_iload hX rfl dX2_unlikeTopics_28 (q := 30) rfl ?_
    refine pw_cnI2 hX dX2_unlikeTopics_30 (q := 33) rfl mi_X3_place mn_X2_88 ⟨rfl, rfl, by decide, by decide⟩ rfl (Nat.le_of_ble_eq_true rfl) (c_X3_place) ?_
    refine pw_ialdVF hX ho 5 (by decide) (show _ < 84 by omega) dX2_unlikeTopics_33 (q := 34) rfl ?_
    refine pw_icmpN_eq hX (by first | omega | exact bV_0 hV | exact bV7 hV (by decide) (by omega) | exact bV84 hV (by decide) (by omega) | exact bV12 hV (by omega) | exact bV_1 hV | exact bV_2 hV) (by first | omega | exact bV_0 hV | exact bV7 hV (by decide) (by omega) | exact bV84 hV (by decide) (by omega) | exact bV12 hV (by omega) | exact bV_1 hV | exact bV_2 hV) (tgt := 44) dX2_unlikeTopics_34 (q := 37) rfl (by decide) (fun h_34 => ?_) (fun h_34 => ?_)
    · refine pw_iinc hX rfl (by decide) (inc1 _) dX2_unlikeTopics_44 (q := 47) rfl ?_
      refine pw_goto hX (tgt := 5) dX2_unlikeTopics_47 (by decide) ?_
      exact pw_eq rfl (by simp_all [lst, bits]) rfl (ih (by omega))
    · refine pw_iload_n hX rfl dX2_unlikeTopics_37 (q := 38) rfl ?_
      refine pw_iconst hX (k := 1) rfl (by decide) dX2_unlikeTopics_38 (q := 39) rfl ?_
      refine pw_iload hX rfl dX2_unlikeTopics_39 (q := 41) rfl ?_
      refine pw_ishl1 hX (by omega) dX2_unlikeTopics_41 (q := 42) rfl ?_
      refine pw_iorN hX dX2_unlikeTopics_42 (q := 43) rfl ?_
      refine pw_istore_n hX (by decide) dX2_unlikeTopics_43 (q := 44) rfl ?_
      refine pw_iinc hX rfl (by decide) (inc1 _) dX2_unlikeTopics_44 (q := 47) rfl ?_
      refine pw_goto hX (tgt := 5) dX2_unlikeTopics_47 (by decide) ?_
      exact pw_eq rfl (by simp_all [lst, bits]) rfl (ih (by omega))
abbrev rm_X2_howMany : Room := { frames := 0, cells := 0, slots := 0, locals := 0 }
set_option maxHeartbeats 800000 in
set_option maxRecDepth 20000 in
theorem c_X2_howMany {l : Launch} {g : Geo} {w : WD} {V : Nat → Nat → Nat} {o : Nat} {a : Nat} (ho : o < 7) (hV : bV V) (ha : a < 2 ^ 31) : CtI l g yX2_howMany cX2_howMany 4 (some .int) rm_X2_howMany [.ref (g_ad g o 0), .int (nI a)] (wO w o V) (nI (kMany V a)) (wO w o V) := by
  refine ct_of mi_X2_howMany.2.2.2.2.2 ⟨rfl, rfl⟩ (List.forall_mem_cons.mpr ⟨rfl, List.forall_mem_cons.mpr ⟨rfl, fun _ h => absurd h List.not_mem_nil⟩⟩) (Nat.le_of_ble_eq_true rfl) (fun P hX => ?_)
  replace hX : Gd l g RX2 cX2_howMany rm_X2_howMany 4 (some .int) _ _ P := hX
  show P (wO w o V) 0 [some (.ref (g_ad g o 0)), some (.int (nI a)), none, none] []
  have h7 := hV.2.2.2.1
  refine pw_iconst hX (k := 0) rfl (by decide) dX2_howMany_0 (q := 1) rfl ?_
  refine pw_istore_n hX (by decide) dX2_howMany_1 (q := 2) rfl ?_
  refine pw_iconst hX (k := 0) rfl (by decide) dX2_howMany_2 (q := 3) rfl ?_
  refine pw_istore_n hX (by decide) dX2_howMany_3 (q := 4) rfl ?_
  suffices L : ∀ v, v ≤ V 0 0 → P (wO w o V) 4 [some (.ref (g_ad g o 0)), some (.int (nI a)), some (.int (nI (cnt (fun v => decide (V 1 v = a)) v))), some (.int (nI v))] [] by exact L 0 (Nat.zero_le _)
  refine loopUp (fun v hv ih => ?_)
  refine pw_iload_n hX rfl dX2_howMany_4 (q := 5) rfl ?_
  refine pw_aload_n hX rfl dX2_howMany_5 (q := 6) rfl ?_
  refine pw_getVF hX ho 0 (by decide) fl_X2_9 rfl dX2_howMany_6 (q := 9) rfl ?_
  refine pw_icmpN_ge hX (by first | omega | exact bV_0 hV | exact bV7 hV (by decide) (by omega) | exact bV84 hV (by decide) (by omega) | exact bV12 hV (by omega) | exact bV_1 hV | exact bV_2 hV) (by first | omega | exact bV_0 hV | exact bV7 hV (by decide) (by omega) | exact bV84 hV (by decide) (by omega) | exact bV12 hV (by omega) | exact bV_1 hV | exact bV_2 hV) (tgt := 31) dX2_howMany_9 (q := 12) rfl (by decide) (fun h_9 => ?_) (fun h_9 => ?_)
  · refine pw_iload_n hX rfl dX2_howMany_31 (q := 32) rfl ?_
    refine pw_ireturn hX dX2_howMany_32 ⟨_, rfl, rfl⟩ ⟨congrArg (fun z => some (Value.int z)) ?_, ?_⟩
    · rw [show v = V 0 0 by omega]; rfl
    · rfl
  · refine pw_aload_n hX rfl dX2_howMany_12 (q := 13) rfl ?_
    refine pw_getVF hX ho 4 (by decide) fl_X2_24 rfl dX2_howMany_13 (q := 16) rfl ?_
    refine pw_iload_n hX rfl dX2_howMany_16 (q := 17) rfl ?_
    refine pw_ialdVF hX ho 1 (by decide) (show _ < 7 by omega) dX2_howMany_17 (q := 18) rfl ?_
    refine pw_iload_n hX rfl dX2_howMany_18 (q := 19) rfl ?_
    refine pw_icmpN_ne hX (by first | omega | exact bV_0 hV | exact bV7 hV (by decide) (by omega) | exact bV84 hV (by decide) (by omega) | exact bV12 hV (by omega) | exact bV_1 hV | exact bV_2 hV) (by first | omega | exact bV_0 hV | exact bV7 hV (by decide) (by omega) | exact bV84 hV (by decide) (by omega) | exact bV12 hV (by omega) | exact bV_1 hV | exact bV_2 hV) (tgt := 25) dX2_howMany_19 (q := 22) rfl (by decide) (fun h_19 => ?_) (fun h_19 => ?_)
    · refine pw_iinc hX rfl (by decide) (inc1 _) dX2_howMany_25 (q := 28) rfl ?_
      refine pw_goto hX (tgt := 4) dX2_howMany_28 (by decide) ?_
      exact pw_eq rfl (by simp_all [lst, cnt]) rfl (ih (by omega))
    · refine pw_iinc hX rfl (by decide) (inc1 _) dX2_howMany_22 (q := 25) rfl ?_
      refine pw_iinc hX rfl (by decide) (inc1 _) dX2_howMany_25 (q := 28) rfl ?_
      refine pw_goto hX (tgt := 4) dX2_howMany_28 (by decide) ?_
      exact pw_eq rfl (by simp_all [lst, cnt]) rfl (ih (by omega))
abbrev rm_X2_allGhosts : Room := { frames := 0, cells := 0, slots := 0, locals := 0 }
set_option maxHeartbeats 800000 in
set_option maxRecDepth 20000 in
theorem c_X2_allGhosts {l : Launch} {g : Geo} {w : WD} {V : Nat → Nat → Nat} {o : Nat} (ho : o < 7) (hV : bV V) : CtI l g yX2_allGhosts cX2_allGhosts 3 (some .int) rm_X2_allGhosts [.ref (g_ad g o 0)] (wO w o V) (nI (sm (V 4) (V 0 0))) (wO w o V) := by
  refine ct_of mi_X2_allGhosts.2.2.2.2.2 ⟨rfl, rfl⟩ (List.forall_mem_cons.mpr ⟨rfl, fun _ h => absurd h List.not_mem_nil⟩) (Nat.le_of_ble_eq_true rfl) (fun P hX => ?_)
  replace hX : Gd l g RX2 cX2_allGhosts rm_X2_allGhosts 3 (some .int) _ _ P := hX
  show P (wO w o V) 0 [some (.ref (g_ad g o 0)), none, none] []
  have h7 := hV.2.2.2.1
  refine pw_iconst hX (k := 0) rfl (by decide) dX2_allGhosts_0 (q := 1) rfl ?_
  refine pw_istore_n hX (by decide) dX2_allGhosts_1 (q := 2) rfl ?_
  refine pw_iconst hX (k := 0) rfl (by decide) dX2_allGhosts_2 (q := 3) rfl ?_
  refine pw_istore_n hX (by decide) dX2_allGhosts_3 (q := 4) rfl ?_
  suffices L : ∀ v, v ≤ V 0 0 → P (wO w o V) 4 [some (.ref (g_ad g o 0)), some (.int (nI (sm (V 4) v))), some (.int (nI v))] [] by exact L 0 (Nat.zero_le _)
  refine loopUp (fun v hv ih => ?_)
  refine pw_iload_n hX rfl dX2_allGhosts_4 (q := 5) rfl ?_
  refine pw_aload_n hX rfl dX2_allGhosts_5 (q := 6) rfl ?_
  refine pw_getVF hX ho 0 (by decide) fl_X2_9 rfl dX2_allGhosts_6 (q := 9) rfl ?_
  refine pw_icmpN_ge hX (by first | omega | exact bV_0 hV | exact bV7 hV (by decide) (by omega) | exact bV84 hV (by decide) (by omega) | exact bV12 hV (by omega) | exact bV_1 hV | exact bV_2 hV) (by first | omega | exact bV_0 hV | exact bV7 hV (by decide) (by omega) | exact bV84 hV (by decide) (by omega) | exact bV12 hV (by omega) | exact bV_1 hV | exact bV_2 hV) (tgt := 27) dX2_allGhosts_9 (q := 12) rfl (by decide) (fun h_9 => ?_) (fun h_9 => ?_)
  · refine pw_iload_n hX rfl dX2_allGhosts_27 (q := 28) rfl ?_
    refine pw_ireturn hX dX2_allGhosts_28 ⟨_, rfl, rfl⟩ ⟨congrArg (fun z => some (Value.int z)) ?_, ?_⟩
    · rw [show v = V 0 0 by omega]
    · rfl
  · refine pw_iload_n hX rfl dX2_allGhosts_12 (q := 13) rfl ?_
    refine pw_aload_n hX rfl dX2_allGhosts_13 (q := 14) rfl ?_
    refine pw_getVF hX ho 7 (by decide) fl_X2_34 rfl dX2_allGhosts_14 (q := 17) rfl ?_
    refine pw_iload_n hX rfl dX2_allGhosts_17 (q := 18) rfl ?_
    refine pw_ialdVF hX ho 4 (by decide) (show _ < 7 by omega) dX2_allGhosts_18 (q := 19) rfl ?_
    refine pw_iaddN hX dX2_allGhosts_19 (q := 20) rfl ?_
    refine pw_istore_n hX (by decide) dX2_allGhosts_20 (q := 21) rfl ?_
    refine pw_iinc hX rfl (by decide) (inc1 _) dX2_allGhosts_21 (q := 24) rfl ?_
    refine pw_goto hX (tgt := 4) dX2_allGhosts_24 (by decide) ?_
    exact pw_eq rfl rfl rfl (ih (by omega))
abbrev rm_X2_ticksAsleep : Room := { frames := 0, cells := 0, slots := 0, locals := 0 }
set_option maxHeartbeats 800000 in
set_option maxRecDepth 20000 in
theorem c_X2_ticksAsleep {l : Launch} {g : Geo} {w : WD} {V : Nat → Nat → Nat} {o : Nat} {v : Nat} (ho : o < 7) (hv : v < 7) : CtI l g yX2_ticksAsleep cX2_ticksAsleep 2 (some .int) rm_X2_ticksAsleep [.ref (g_ad g o 0), .int (nI v)] (wO w o V) (nI (V 0 1) - nI (V 3 v)) (wO w o V) := by
  refine ct_of mi_X2_ticksAsleep.2.2.2.2.2 ⟨rfl, rfl⟩ (List.forall_mem_cons.mpr ⟨rfl, List.forall_mem_cons.mpr ⟨rfl, fun _ h => absurd h List.not_mem_nil⟩⟩) (Nat.le_of_ble_eq_true rfl) (fun P hX => ?_)
  replace hX : Gd l g RX2 cX2_ticksAsleep rm_X2_ticksAsleep 2 (some .int) _ _ P := hX
  show P (wO w o V) 0 [some (.ref (g_ad g o 0)), some (.int (nI v))] []
  refine pw_aload_n hX rfl dX2_ticksAsleep_0 (q := 1) rfl ?_
  refine pw_getVF hX ho 1 (by decide) fl_X2_15 rfl dX2_ticksAsleep_1 (q := 4) rfl ?_
  refine pw_aload_n hX rfl dX2_ticksAsleep_4 (q := 5) rfl ?_
  refine pw_getVF hX ho 6 (by decide) fl_X2_31 rfl dX2_ticksAsleep_5 (q := 8) rfl ?_
  refine pw_iload_n hX rfl dX2_ticksAsleep_8 (q := 9) rfl ?_
  refine pw_ialdVF hX ho 3 (by decide) (show _ < 7 by omega) dX2_ticksAsleep_9 (q := 10) rfl ?_
  refine pw_isub hX dX2_ticksAsleep_10 (q := 11) rfl ?_
  refine pw_ireturn hX dX2_ticksAsleep_11 ⟨_, rfl, rfl⟩ ⟨congrArg (fun z => some (Value.int z)) ?_, ?_⟩
  · rfl
  · rfl
abbrev rm_X2_write : Room := { frames := 0, cells := 0, slots := 0, locals := 0 }
set_option maxHeartbeats 800000 in
set_option maxRecDepth 20000 in
theorem c_X2_write {l : Launch} {g : Geo} {w : WD} {V : Nat → Nat → Nat} {o : Nat} {v p k : Nat} (ho : o < 7) (hv : v < 7) (hp : p < 84) : CtV l g yX2_write cX2_write 4 none rm_X2_write [.ref (g_ad g o 0), .int (nI v), .int (nI p), .int (nI k)] (wO w o V) (wO w o (kWr V v p k)) := by
  refine ct_of mi_X2_write.2.2.2.2.2 ⟨rfl, rfl⟩ (List.forall_mem_cons.mpr ⟨rfl, List.forall_mem_cons.mpr ⟨rfl, List.forall_mem_cons.mpr ⟨rfl, List.forall_mem_cons.mpr ⟨rfl, fun _ h => absurd h List.not_mem_nil⟩⟩⟩⟩) (Nat.le_of_ble_eq_true rfl) (fun P hX => ?_)
  replace hX : Gd l g RX2 cX2_write rm_X2_write 4 none _ _ P := hX
  show P (wO w o V) 0 [some (.ref (g_ad g o 0)), some (.int (nI v)), some (.int (nI p)), some (.int (nI k))] []
  refine pw_aload_n hX rfl dX2_write_0 (q := 1) rfl ?_
  refine pw_getVF hX ho 5 (by decide) fl_X2_28 rfl dX2_write_1 (q := 4) rfl ?_
  refine pw_iload_n hX rfl dX2_write_4 (q := 5) rfl ?_
  refine pw_dup2 hX rfl rfl dX2_write_5 (q := 6) rfl ?_
  refine pw_ialdVF hX ho 2 (by decide) (show _ < 7 by omega) dX2_write_6 (q := 7) rfl ?_
  refine pw_iconst hX (k := 1) rfl (by decide) dX2_write_7 (q := 8) rfl ?_
  refine pw_iaddN hX dX2_write_8 (q := 9) rfl ?_
  refine pw_iastVF hX ho 2 (by decide) (show _ < 7 by omega) dX2_write_9 (q := 10) rfl ?_
  refine pw_aload_n hX rfl dX2_write_10 (q := 11) rfl ?_
  refine pw_getVF hX ho 8 (by decide) fl_X2_37 rfl dX2_write_11 (q := 14) rfl ?_
  refine pw_iload_n hX rfl dX2_write_14 (q := 15) rfl ?_
  refine pw_aload_n hX rfl dX2_write_15 (q := 16) rfl ?_
  refine pw_getVF hX ho 5 (by decide) fl_X2_28 rfl dX2_write_16 (q := 19) rfl ?_
  refine pw_iload_n hX rfl dX2_write_19 (q := 20) rfl ?_
  refine pw_ialdVF hX ho 2 (by decide) (show _ < 7 by omega) dX2_write_20 (q := 21) rfl ?_
  rw [show vU V 2 v (V 2 v + 1) 2 v = V 2 v + 1 by rw [vU_s, upN_s]]
  refine pw_bipush hX (k := 8) (by decide) dX2_write_21 (q := 23) rfl ?_
  refine pw_imulN hX dX2_write_23 (q := 24) rfl ?_
  refine pw_iload_n hX rfl dX2_write_24 (q := 25) rfl ?_
  refine pw_iaddN hX dX2_write_25 (q := 26) rfl ?_
  refine pw_iastVF hX ho 5 (by decide) (show _ < 84 by omega) dX2_write_26 (q := 27) rfl ?_
  refine pw_aload_n hX rfl dX2_write_27 (q := 28) rfl ?_
  refine pw_getVF hX ho 9 (by decide) fl_X2_40 rfl dX2_write_28 (q := 31) rfl ?_
  refine pw_iload_n hX rfl dX2_write_31 (q := 32) rfl ?_
  refine pw_iload_n hX rfl dX2_write_32 (q := 33) rfl ?_
  refine pw_iastVF hX ho 6 (by decide) (show _ < 84 by omega) dX2_write_33 (q := 34) rfl ?_
  refine pw_return hX dX2_write_34 rfl ⟨rfl, ?_⟩
  rfl

