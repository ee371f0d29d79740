/-! what the calls of acts answer -/
theorem kMR_at {V : Nat → Nat → Nat} {v t a k : Nat} (hn : V 0 0 ≤ 7) (hv : v < V 0 0) (ht : t < 12) (ha : a ≤ 99) (hk : k ≤ 2) : kMR V (nI v) (nI t) (nI a) (nI k) = if V 1 v = 0 then (kMr V v t a k, nI (V 2 v + 1)) else (V, -1000002) := by
  unfold kMR
  rw [if_pos ⟨hasn hv (by omega), hasn ht (by omega), by rw [inN_nI (by omega)]; exact decide_eq_true ⟨Nat.zero_le _, ha⟩, by rw [inN_nI (by omega)]; exact decide_eq_true ⟨Nat.zero_le _, hk⟩⟩, ixn (i := v) (by omega), ixn (i := t) (by omega), ixn (i := a) (by omega), ixn (i := k) (by omega)]
  rfl
theorem kMT_at {V : Nat → Nat → Nat} {v t : Nat} (hn : V 0 0 ≤ 7) (hv : v < V 0 0) (ht : t < 12) : kMT V (nI v) (nI t) = if V 1 v = 0 ∧ kRum V (v * 12 + t) = true then (kTb V v t, nI (V 2 v + 1)) else (V, -1000002) := by
  unfold kMT
  rw [if_pos ⟨hasn hv (by omega), hasn ht (by omega)⟩, ixn (i := v) (by omega), ixn (i := t) (by omega)]
theorem kSl_at {V : Nat → Nat → Nat} {v : Nat} (hn : V 0 0 ≤ 7) (hv : v < V 0 0) : kSl V (nI v) = if V 1 v = 0 then (vU (vU V 1 v 1) 3 v (V 0 1), nI (kMany (vU (vU V 1 v 1) 3 v (V 0 1)) 0)) else (V, -1000002) := by
  unfold kSl
  rw [if_pos (hasn hv (by omega)), ixn (i := v) (by omega)]
theorem kWk_at {V : Nat → Nat → Nat} {v : Nat} (hn : V 0 0 ≤ 7) (hv : v < V 0 0) : kWk V (nI v) = if V 1 v = 1 then (vU V 1 v 0, nI (V 0 1) - nI (V 3 v)) else (V, -1000002) := by
  unfold kWk
  rw [if_pos (hasn hv (by omega)), ixn (i := v) (by omega)]
theorem kLv_at {V : Nat → Nat → Nat} {v : Nat} (hn : V 0 0 ≤ 7) (hv : v < V 0 0) : kLv V (nI v) = if V 1 v = 2 then (V, -1000002) else (kGo V v, nI (kMany (kGo V v) 0 + kMany (kGo V v) 1)) := by
  unfold kLv
  rw [if_pos (hasn hv (by omega)), ixn (i := v) (by omega)]
theorem kCw_at {V : Nat → Nat → Nat} {x : Nat} (h1 : 1 ≤ x) (h2 : x ≤ 60) : kCw V (nI x) = (vU V 0 2 x, nI (V 0 2)) := by
  unfold kCw
  rw [if_pos (by rw [inN_nI (by omega)]; exact decide_eq_true ⟨h1, h2⟩), ixn (i := x) (by omega)]
theorem cnt_le (p : Nat → Bool) : ∀ n, cnt p n ≤ n
  | 0 => Nat.le_refl _
  | n + 1 => by
    have := cnt_le p n
    rw [cnt_s]
    split <;> omega
theorem many_le (V : Nat → Nat → Nat) (a : Nat) : kMany V a ≤ V 0 0 := cnt_le _ _
theorem nTo_le (V : Nat → Nat → Nat) : ∀ n, nTo V n ≤ 12 * n
  | 0 => Nat.le_refl _
  | n + 1 => by
    have := nTo_le V n
    have h := cnt_le (fun t => kTmb V (n * 12 + t)) 12
    show nTo V n + cnt (fun t => kTmb V (n * 12 + t)) 12 ≤ 12 * (n + 1)
    omega
theorem nRu_le (V : Nat → Nat → Nat) : ∀ n, nRu V n ≤ 12 * n
  | 0 => Nat.le_refl _
  | n + 1 => by
    have := nRu_le V n
    have h := cnt_le (fun t => kRum V (n * 12 + t)) 12
    show nRu V n + cnt (fun t => kRum V (n * 12 + t)) 12 ≤ 12 * (n + 1)
    omega
/-- what shows of a new rumor, of a new tomb -/
theorem Mr_s (V : Nat → Nat → Nat) {v t a k : Nat} (hk : k ≤ 2) : kMr V v t a k 0 = V 0 ∧ kMr V v t a k 5 (v * 12 + t) = (V 2 v + 1) * 8 + v ∧ kTmb (kMr V v t a k) (v * 12 + t) = false := by
  have e5 : kMr V v t a k 5 (v * 12 + t) = (V 2 v + 1) * 8 + v := by unfold kMr kWr; simp (disch := decide) only [vU_n, vUe]; exact if_pos trivial
  have e6 : kMr V v t a k 6 (v * 12 + t) = k := by unfold kMr kWr; simp (disch := decide) only [vU_n, vUe]; exact if_pos trivial
  refine ⟨by unfold kMr kWr; simp (disch := decide) only [vU_n], e5, ?_⟩
  unfold kTmb
  rw [e5, e6]
  exact decide_eq_false (fun z => by omega)
theorem Tb_s (V : Nat → Nat → Nat) (v t : Nat) : kTb V v t 0 0 = V 0 0 ∧ kTb V v t 0 1 = V 0 1 ∧ kTb V v t 0 3 = V 0 3 + 1 ∧ kTmb (kTb V v t) (v * 12 + t) = true ∧ kTb V v t 9 (v * 12 + t) = 2 ^ v ∧ kTb V v t 8 (v * 12 + t) = V 0 1 := by
  have e00 : ∀ j, kTb V v t 0 j = if j = 3 then V 0 3 + 1 else V 0 j := fun j => by unfold kTb kWr; simp (disch := decide) only [vU_n, vUe]
  have e5 : kTb V v t 5 (v * 12 + t) = (V 2 v + 1) * 8 + v := by unfold kTb kWr; simp (disch := decide) only [vU_n, vUe]; exact if_pos trivial
  have e6 : kTb V v t 6 (v * 12 + t) = 3 := by unfold kTb kWr; simp (disch := decide) only [vU_n, vUe]; exact if_pos trivial
  refine ⟨by rw [e00]; rfl, by rw [e00]; rfl, by rw [e00]; rfl, ?_, ?_, ?_⟩
  · unfold kTmb
    rw [e5, e6]
    exact decide_eq_true ⟨by omega, rfl⟩
  · unfold kTb kWr; simp (disch := decide) only [vU_n, vUe]; exact if_pos trivial
  · unfold kTb kWr; simp (disch := decide) only [vU_n, vUe]; exact if_pos trivial
theorem sl_s (V : Nat → Nat → Nat) (v : Nat) : vU (vU V 1 v 1) 3 v (V 0 1) 0 = V 0 ∧ vU (vU V 1 v 1) 3 v (V 0 1) 1 v = 1 ∧ vU (vU V 1 v 1) 3 v (V 0 1) 3 v = V 0 1 := by
  refine ⟨by simp (disch := decide) only [vU_n], ?_, ?_⟩
  · simp (disch := decide) only [vU_n, vUe]; exact if_pos trivial
  · simp (disch := decide) only [vU_n, vUe]; exact if_pos trivial
/-- a walk of the law's own class at one world and behind a call: what is to come -/
abbrev Fn (N G : Nat) : Option Value → WD → Prop := fun r w' => r = some (.int (nI 1)) ∧ WJ w' N G 5
theorem J_2 {V : Nat → Nat → Nat} {N G : Nat} (h : J V N G) (hN : N ≤ 2 ^ 20) : ∀ i, i < 7 → (V 2 i + 1) * 8 + i < 2 ^ 30 := fun i hi => by
  have := (h.2.2.2.2.1 i hi).2.1
  omega
theorem mask_nn (x : Int32) : ∃ y, y < 2 ^ 31 ∧ x &&& 2147483647 = nI y := ⟨x.toBitVec.toNat % 2 ^ 31, Nat.mod_lt _ (by decide), pk_and x 31 (by decide)⟩
