def hK (w : WD) (k : Nat) (s : Nat → Nat) : WD := ((wA w 8 0 (upN (w.1 8 0) 1 k)).1, s)
def rot (s : Nat → Nat) : Nat → Nat := fun j => if j = 4 then s 0 else if j < 4 then s (j + 1) else s j
def rH (w : WD) (i : Nat) : WD := (w.1, fun j => if j < i then w.2 (j + 1) else w.2 j)
theorem rH_0 (w : WD) : rH w 0 = w := Prod.ext rfl (funext fun j => by show (if j < 0 then w.2 (j + 1) else w.2 j) = w.2 j; exact if_neg (by omega))
theorem rH_s (w : WD) (i : Nat) : wH (rH w i) i (w.2 (i + 1)) = rH w (i + 1) := by
  refine Prod.ext rfl (funext fun j => ?_)
  show (if j = i then w.2 (i + 1) else if j < i then w.2 (j + 1) else w.2 j) = if j < i + 1 then w.2 (j + 1) else w.2 j
  by_cases h : j = i
  · subst h; rw [if_pos rfl, if_pos (by omega)]
  · rw [if_neg h]
    by_cases h2 : j < i
    · rw [if_pos h2, if_pos (by omega)]
    · rw [if_neg h2, if_neg (by omega)]
def hKeep (w : WD) : WD := if w.1 8 0 1 = 4 then hK w 4 (rot w.2) else hK w (w.1 8 0 1 + 1) w.2
theorem hK_hK (w : WD) (k k' : Nat) (s s' : Nat → Nat) : hK (hK w k s) k' s' = hK w k' s' := by
  refine Prod.ext (funext fun a => funext fun b => ?_) rfl
  by_cases h : a = 8 ∧ b = 0
  · obtain ⟨rfl, rfl⟩ := h
    show upN (upN (w.1 8 0) 1 k) 1 k' = upN (w.1 8 0) 1 k'
    rw [upN_upN]
  · simp only [hK, wA, if_neg h]
theorem hK_1 (w : WD) (k : Nat) : wA w 8 0 (upN (w.1 8 0) 1 k) = hK w k w.2 := rfl
theorem hK_k (w : WD) (k : Nat) (s : Nat → Nat) : (hK w k s).1 8 0 1 = k := rfl
theorem hK_n (w : WD) (k : Nat) (s : Nat → Nat) {a : Nat} (h : a ≠ 8) : (hK w k s).1 a = w.1 a := by
  funext b
  simp only [hK, wA]
  rw [if_neg (fun z => h z.1)]
abbrev rm_X0_prepare : Room := { frames := 3, cells := 0, slots := 0, locals := 69 }
set_option maxHeartbeats 800000 in
set_option maxRecDepth 20000 in
theorem c_X0_prepare {l : Launch} {g : Geo} {w : WD} {o2 : Nat} (hk : w.1 8 0 1 < 5) (hs : w.2 (w.1 8 0 1) < 7) (ho2 : o2 < 7) (hne : o2 ≠ w.2 (w.1 8 0 1)) : CtV l g yX0_prepare cX0_prepare 2 none rm_X0_prepare [.ref (g_ad g 8 0), .ref (g_ad g o2 0)] (w) (wO w (w.2 (w.1 8 0 1)) (kCp (w.1 (w.2 (w.1 8 0 1))) (w.1 o2))) := by
  refine ct_of mi_X0_prepare.2.2.2.2.2 ⟨rfl, rfl⟩ (List.forall_mem_cons.mpr ⟨rfl, List.forall_mem_cons.mpr ⟨rfl, fun _ h => absurd h List.not_mem_nil⟩⟩) (Nat.le_of_ble_eq_true rfl) (fun P hX => ?_)
  replace hX : Gd l g RX0 cX0_prepare rm_X0_prepare 2 none _ _ P := hX
  show P (w) 0 [some (.ref (g_ad g 8 0)), some (.ref (g_ad g o2 0))] []
  refine pw_aload_n hX rfl dX0_prepare_0 (q := 1) rfl ?_
  refine pw_getH hX 0 (by decide) fl_X0_11 rfl dX0_prepare_1 (q := 4) rfl ?_
  refine pw_aload_n hX rfl dX0_prepare_4 (q := 5) rfl ?_
  refine pw_getH hX 1 (by decide) fl_X0_17 rfl dX0_prepare_5 (q := 8) rfl ?_
  refine pw_aald hX (by exact hk) dX0_prepare_8 (q := 9) rfl ?_
  refine pw_aload_n hX rfl dX0_prepare_9 (q := 10) rfl ?_
  refine pw_cvV1 hX dX0_prepare_10 (q := 13) rfl mi_X2_copyFrom ml_X0_22 (rcV hs) ⟨rfl, rfl, by decide, by decide⟩ rfl (Nat.le_of_ble_eq_true rfl) (c_X2_copyFrom hs ho2 hne).at ?_
  refine pw_return hX dX0_prepare_13 rfl ⟨rfl, ?_⟩
  rfl
abbrev rm_X0_dropOldest : Room := { frames := 0, cells := 0, slots := 0, locals := 0 }
set_option maxHeartbeats 800000 in
set_option maxRecDepth 20000 in
theorem c_X0_dropOldest {l : Launch} {g : Geo} {w : WD} (h1 : 1 ≤ w.1 8 0 1) (hs : ∀ i, i < 5 → w.2 i < 7) : CtV l g yX0_dropOldest cX0_dropOldest 3 none rm_X0_dropOldest [.ref (g_ad g 8 0)] (w) (hK w (w.1 8 0 1 - 1) (rot w.2)) := by
  refine ct_of mi_X0_dropOldest.2.2.2.2.2 ⟨rfl, rfl⟩ (List.forall_mem_cons.mpr ⟨rfl, fun _ h => absurd h List.not_mem_nil⟩) (Nat.le_of_ble_eq_true rfl) (fun P hX => ?_)
  replace hX : Gd l g RX0 cX0_dropOldest rm_X0_dropOldest 3 none _ _ P := hX
  show P (w) 0 [some (.ref (g_ad g 8 0)), none, none] []
  refine pw_aload_n hX rfl dX0_dropOldest_0 (q := 1) rfl ?_
  refine pw_getH hX 0 (by decide) fl_X0_11 rfl dX0_dropOldest_1 (q := 4) rfl ?_
  refine pw_iconst hX (k := 0) rfl (by decide) dX0_dropOldest_4 (q := 5) rfl ?_
  refine pw_aald hX (by decide) dX0_dropOldest_5 (q := 6) rfl ?_
  refine pw_astore_n hX (by decide) dX0_dropOldest_6 (q := 7) rfl ?_
  refine pw_iconst hX (k := 0) rfl (by decide) dX0_dropOldest_7 (q := 8) rfl ?_
  refine pw_istore_n hX (by decide) dX0_dropOldest_8 (q := 9) rfl ?_
  suffices L : ∀ i, i ≤ 4 → P (rH w i) 9 [some (.ref (g_ad g 8 0)), some (.ref (g_ad g (w.2 0) 0)), some (.int (nI i))] [] by have h9 := L 0 (Nat.zero_le _); rw [rH_0] at h9; exact h9
  refine loopUp (fun i hi ih => ?_)
  refine pw_iload_n hX rfl dX0_dropOldest_9 (q := 10) rfl ?_
  refine pw_iconst hX (k := 4) rfl (by decide) dX0_dropOldest_10 (q := 11) rfl ?_
  refine pw_icmpN_ge hX (by first | omega) (by first | omega) (tgt := 34) dX0_dropOldest_11 (q := 14) rfl (by decide) (fun h_11 => ?_) (fun h_11 => ?_)
  · have e4 : i = 4 := by omega
    subst e4
    refine pw_aload_n hX rfl dX0_dropOldest_34 (q := 35) rfl ?_
    refine pw_getH hX 0 (by decide) fl_X0_11 rfl dX0_dropOldest_35 (q := 38) rfl ?_
    refine pw_iconst hX (k := 4) rfl (by decide) dX0_dropOldest_38 (q := 39) rfl ?_
    refine pw_aload_n hX rfl dX0_dropOldest_39 (q := 40) rfl ?_
    refine pw_aast hX (by decide) (by exact hs 0 (by decide)) dX0_dropOldest_40 (q := 41) rfl ?_
    refine pw_aload_n hX rfl dX0_dropOldest_41 (q := 42) rfl ?_
    refine pw_dup hX rfl dX0_dropOldest_42 (q := 43) rfl ?_
    refine pw_getH hX 1 (by decide) fl_X0_17 rfl dX0_dropOldest_43 (q := 46) rfl ?_
    rw [show (wH (rH w 4) 4 (w.2 0)).1 8 0 1 = w.1 8 0 1 from rfl]
    refine pw_iconst hX (k := 1) rfl (by decide) dX0_dropOldest_46 (q := 47) rfl ?_
    refine pw_isubN hX (by first | assumption | omega) dX0_dropOldest_47 (q := 48) rfl ?_
    refine pw_putH hX 1 (by decide) fl_X0_17 dX0_dropOldest_48 (q := 51) rfl ?_
    refine pw_return hX dX0_dropOldest_51 rfl ⟨rfl, ?_⟩
    rfl
  · refine pw_aload_n hX rfl dX0_dropOldest_14 (q := 15) rfl ?_
    refine pw_getH hX 0 (by decide) fl_X0_11 rfl dX0_dropOldest_15 (q := 18) rfl ?_
    refine pw_iload_n hX rfl dX0_dropOldest_18 (q := 19) rfl ?_
    refine pw_aload_n hX rfl dX0_dropOldest_19 (q := 20) rfl ?_
    refine pw_getH hX 0 (by decide) fl_X0_11 rfl dX0_dropOldest_20 (q := 23) rfl ?_
    refine pw_iload_n hX rfl dX0_dropOldest_23 (q := 24) rfl ?_
    refine pw_iconst hX (k := 1) rfl (by decide) dX0_dropOldest_24 (q := 25) rfl ?_
    refine pw_iaddN hX dX0_dropOldest_25 (q := 26) rfl ?_
    refine pw_aald hX (by omega) dX0_dropOldest_26 (q := 27) rfl ?_
    rw [show (rH w i).2 (i + 1) = w.2 (i + 1) from if_neg (by omega)]
    refine pw_aast hX (by omega) (by exact hs _ (by omega)) dX0_dropOldest_27 (q := 28) rfl ?_
    refine pw_iinc hX rfl (by decide) (inc1 _) dX0_dropOldest_28 (q := 31) rfl ?_
    refine pw_goto hX (tgt := 9) dX0_dropOldest_31 (by decide) ?_
    rw [rH_s]
    exact pw_eq rfl rfl rfl (ih (by omega))
abbrev rm_X0_keep : Room := { frames := 1, cells := 0, slots := 0, locals := 22 }
set_option maxHeartbeats 800000 in
set_option maxRecDepth 20000 in
theorem c_X0_keep {l : Launch} {g : Geo} {w : WD} (hk : w.1 8 0 1 ≤ 4) (hs : ∀ i, i < 5 → w.2 i < 7) : CtV l g yX0_keep cX0_keep 1 none rm_X0_keep [.ref (g_ad g 8 0)] (w) (hKeep w) := by
  refine ct_of mi_X0_keep.2.2.2.2.2 ⟨rfl, rfl⟩ (List.forall_mem_cons.mpr ⟨rfl, fun _ h => absurd h List.not_mem_nil⟩) (Nat.le_of_ble_eq_true rfl) (fun P hX => ?_)
  replace hX : Gd l g RX0 cX0_keep rm_X0_keep 1 none _ _ P := hX
  show P (w) 0 [some (.ref (g_ad g 8 0))] []
  refine pw_aload_n hX rfl dX0_keep_0 (q := 1) rfl ?_
  refine pw_dup hX rfl dX0_keep_1 (q := 2) rfl ?_
  refine pw_getH hX 1 (by decide) fl_X0_17 rfl dX0_keep_2 (q := 5) rfl ?_
  refine pw_iconst hX (k := 1) rfl (by decide) dX0_keep_5 (q := 6) rfl ?_
  refine pw_iaddN hX dX0_keep_6 (q := 7) rfl ?_
  refine pw_putH hX 1 (by decide) fl_X0_17 dX0_keep_7 (q := 10) rfl ?_
  rw [hK_1]
  refine pw_aload_n hX rfl dX0_keep_10 (q := 11) rfl ?_
  refine pw_getH hX 1 (by decide) fl_X0_17 rfl dX0_keep_11 (q := 14) rfl ?_
  rw [hK_k]
  refine pw_iconst hX (k := 4) rfl (by decide) dX0_keep_14 (q := 15) rfl ?_
  refine pw_icmpN_le hX (by omega) (by omega) (tgt := 22) dX0_keep_15 (q := 18) rfl (by decide) (fun h_15 => ?_) (fun h_15 => ?_)
  · have e : hKeep w = hK w (w.1 8 0 1 + 1) w.2 := if_neg (by omega)
    refine pw_return hX dX0_keep_22 rfl ⟨rfl, ?_⟩
    rw [e]; first | done | (rw [hK_hK, hK_k, show w.1 8 0 1 + 1 - 1 = 4 by omega]; rfl)
  · refine pw_aload_n hX rfl dX0_keep_18 (q := 19) rfl ?_
    refine pw_cvV0 hX dX0_keep_19 (q := 22) rfl mi_X0_dropOldest ml_X0_26 rcH ⟨rfl, rfl, by decide, by decide⟩ rfl (Nat.le_of_ble_eq_true rfl) (c_X0_dropOldest (by rw [hK_k]; omega) hs) ?_
    have e : hKeep w = hK w 4 (rot w.2) := if_pos (by omega)
    refine pw_return hX dX0_keep_22 rfl ⟨rfl, ?_⟩
    rw [e]; first | done | (rw [hK_hK, hK_k, show w.1 8 0 1 + 1 - 1 = 4 by omega]; rfl)
abbrev rm_X0_restore : Room := { frames := 3, cells := 0, slots := 0, locals := 69 }
set_option maxHeartbeats 800000 in
set_option maxRecDepth 20000 in
theorem c_X0_restore {l : Launch} {g : Geo} {w : WD} {o2 : Nat} (h1 : 1 ≤ w.1 8 0 1) (hk : w.1 8 0 1 < 6) (hs : w.2 (w.1 8 0 1 - 1) < 7) (ho2 : o2 < 7) (hne : w.2 (w.1 8 0 1 - 1) ≠ o2) : CtV l g yX0_restore cX0_restore 2 none rm_X0_restore [.ref (g_ad g 8 0), .ref (g_ad g o2 0)] (w) (wO (hK w (w.1 8 0 1 - 1) w.2) o2 (kCp (w.1 o2) (w.1 (w.2 (w.1 8 0 1 - 1))))) := by
  refine ct_of mi_X0_restore.2.2.2.2.2 ⟨rfl, rfl⟩ (List.forall_mem_cons.mpr ⟨rfl, List.forall_mem_cons.mpr ⟨rfl, fun _ h => absurd h List.not_mem_nil⟩⟩) (Nat.le_of_ble_eq_true rfl) (fun P hX => ?_)
  replace hX : Gd l g RX0 cX0_restore rm_X0_restore 2 none _ _ P := hX
  show P (w) 0 [some (.ref (g_ad g 8 0)), some (.ref (g_ad g o2 0))] []
  refine pw_aload_n hX rfl dX0_restore_0 (q := 1) rfl ?_
  refine pw_dup hX rfl dX0_restore_1 (q := 2) rfl ?_
  refine pw_getH hX 1 (by decide) fl_X0_17 rfl dX0_restore_2 (q := 5) rfl ?_
  refine pw_iconst hX (k := 1) rfl (by decide) dX0_restore_5 (q := 6) rfl ?_
  refine pw_isubN hX (by first | assumption | omega) dX0_restore_6 (q := 7) rfl ?_
  refine pw_putH hX 1 (by decide) fl_X0_17 dX0_restore_7 (q := 10) rfl ?_
  rw [hK_1]
  refine pw_aload_n hX rfl dX0_restore_10 (q := 11) rfl ?_
  refine pw_aload_n hX rfl dX0_restore_11 (q := 12) rfl ?_
  refine pw_getH hX 0 (by decide) fl_X0_11 rfl dX0_restore_12 (q := 15) rfl ?_
  refine pw_aload_n hX rfl dX0_restore_15 (q := 16) rfl ?_
  refine pw_getH hX 1 (by decide) fl_X0_17 rfl dX0_restore_16 (q := 19) rfl ?_
  rw [hK_k]
  refine pw_aald hX (by omega) dX0_restore_19 (q := 20) rfl ?_
  refine pw_cvV1 hX dX0_restore_20 (q := 23) rfl mi_X2_copyFrom ml_X0_22 (rcV ho2) ⟨rfl, rfl, by decide, by decide⟩ rfl (Nat.le_of_ble_eq_true rfl) (c_X2_copyFrom ho2 hs hne).at ?_
  refine pw_return hX dX0_restore_23 rfl ⟨rfl, ?_⟩
  rw [hK_n _ _ _ (show o2 ≠ 8 by omega), hK_n _ _ _ (show w.2 (w.1 8 0 1 - 1) ≠ 8 by omega)]

