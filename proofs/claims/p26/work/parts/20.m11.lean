theorem kCp_e (V U : Nat → Nat → Nat) : vA (vA (vA (vA (vA (vA (vA (vA (vA (vA (vA (vU (vU (vU (vU V 0 0 (U 0 0)) 0 1 (U 0 1)) 0 2 (U 0 2)) 0 3 (U 0 3)) 1 (U 1)) 2 (U 2)) 3 (U 3)) 4 (U 4)) 5 (U 5)) 6 (U 6)) 7 (U 7)) 8 (U 8)) 9 (U 9)) 10 (U 10)) 11 (U 11) = kCp V U := by
  funext k
  rcases (show k = 0 ∨ k = 1 ∨ k = 2 ∨ k = 3 ∨ k = 4 ∨ k = 5 ∨ k = 6 ∨ k = 7 ∨ k = 8 ∨ k = 9 ∨ k = 10 ∨ k = 11 ∨ 12 ≤ k by omega) with rfl | rfl | rfl | rfl | rfl | rfl | rfl | rfl | rfl | rfl | rfl | rfl | h
  · funext j
    show upN (upN (upN (upN (V 0) 0 (U 0 0)) 1 (U 0 1)) 2 (U 0 2)) 3 (U 0 3) j = if j < 4 then U 0 j else V 0 j
    rcases (show j = 0 ∨ j = 1 ∨ j = 2 ∨ j = 3 ∨ 4 ≤ j by omega) with rfl | rfl | rfl | rfl | h
    · rfl
    · rfl
    · rfl
    · rfl
    · rw [if_neg (by omega), upN_n _ _ (by omega), upN_n _ _ (by omega), upN_n _ _ (by omega), upN_n _ _ (by omega)]
  all_goals first
    | rfl
    | (unfold kCp; rw [if_neg (by omega), if_neg (by omega)]
       repeat rw [vA_n _ _ (by omega)]
       repeat rw [vU_n _ _ _ (by omega)])
theorem bV_vU {V : Nat → Nat → Nat} (h : bV V) {k i x : Nat} (hx : x < 2 ^ 30) (h0 : ¬ (k = 0 ∧ i = 0)) : bV (vU V k i x) := by
  obtain ⟨h1, h2, h3, h4, h5, h6⟩ := h
  have key : ∀ b j, V b j < 2 ^ 30 → vU V k i x b j < 2 ^ 30 := by
    intro b j hb
    by_cases hk : b = k
    · subst hk
      rw [vU_s]
      unfold upN
      split
      · exact hx
      · exact hb
    · rw [vU_n _ _ _ hk]; exact hb
  refine ⟨fun b j a1 a2 a3 => key b j (h1 b j a1 a2 a3), fun b j a1 a2 a3 => key b j (h2 b j a1 a2 a3), fun j a => key 11 j (h3 j a), ?_, key 0 1 h5, key 0 2 h6⟩
  by_cases hk : 0 = k
  · subst hk
    rw [vU_s, upN_n _ _ (by omega)]; exact h4
  · rw [vU_n _ _ _ hk]; exact h4
theorem bV_v4 {V : Nat → Nat → Nat} (h : bV V) (i x : Nat) : bV (vU V 4 i x) := by
  obtain ⟨h1, h2, h3, h4, h5, h6⟩ := h
  refine ⟨fun b j a1 a2 a3 => ?_, fun b j a1 a2 a3 => ?_, h3, h4, h5, h6⟩
  · rw [vU_n _ _ _ (by omega)]; exact h1 b j a1 a2 a3
  · rw [vU_n _ _ _ (by omega)]; exact h2 b j a1 a2 a3
theorem bV_v3 {V : Nat → Nat → Nat} (h : bV V) (x : Nat) : bV (vU V 0 3 x) := by
  obtain ⟨h1, h2, h3, h4, h5, h6⟩ := h
  refine ⟨fun b j a1 a2 a3 => ?_, fun b j a1 a2 a3 => ?_, h3, h4, h5, h6⟩
  · rw [vU_n _ _ _ (by omega)]; exact h1 b j a1 a2 a3
  · rw [vU_n _ _ _ (by omega)]; exact h2 b j a1 a2 a3
def mx (a b : Nat) : Nat := if a < b then b else a
theorem mx_lt {a b n : Nat} (ha : a < n) (hb : b < n) : mx a b < n := by unfold mx; split <;> assumption
theorem n_max {x y : Nat} (hx : x < 2 ^ 31) (hy : y < 2 ^ 31) : (if nI x < nI y then nI y else nI x) = nI (mx x y) := by
  unfold mx
  by_cases h : x < y
  · rw [if_pos h, if_pos ((nI_ltI hx hy).mpr h)]
  · rw [if_neg h, if_neg (fun z => h ((nI_ltI hx hy).mp z))]
theorem inN_lo0 {hi : Nat} {v : Int32} (h : v < 0) : inN 0 hi v = false := inN_lo (by decide) (by rw [nI_0]; exact h)
theorem inN_ok0 {hi : Nat} (h2 : hi < 2 ^ 31) {v : Int32} (h : ¬ v < 0) (h' : ¬ nI hi < v) : inN 0 hi v = true := inN_ok (by decide) h2 (by rw [nI_0]; exact h) h'
theorem kAw_n {V : Nat → Nat → Nat} {i : Nat} (h : hasN (V 0 0) (nI i) = true) (hx : ix (nI i) = i) : kAw V (nI i) = decide (V 1 i = 0) := by rw [kAw, h, hx]; rfl
theorem kAs_n {V : Nat → Nat → Nat} {i : Nat} (h : hasN (V 0 0) (nI i) = true) (hx : ix (nI i) = i) : kAs V (nI i) = decide (V 1 i = 1) := by rw [kAs, h, hx]; rfl
def kMR (V : Nat → Nat → Nat) (v t a k : Int32) : (Nat → Nat → Nat) × Int32 := if hasN (V 0 0) v = true ∧ hasN 12 t = true ∧ inN 0 99 a = true ∧ inN 0 2 k = true then (if V 1 (ix v) = 0 then (vU (kWr V (ix v) (ix v * 12 + ix t) (ix k)) 7 (ix v * 12 + ix t) (ix a), nI (V 2 (ix v) + 1)) else (V, -1000002)) else (V, -1000001)
def kTb (V : Nat → Nat → Nat) (v t : Nat) : Nat → Nat → Nat := vU (vU (vU (vU (kWr V v (v * 12 + t) 3) 8 (v * 12 + t) (V 0 1)) 9 (v * 12 + t) (2 ^ v)) 11 t (mx (V 11 t) ((V 2 v + 1) * 8 + v))) 0 3 (V 0 3 + 1)
def kMT (V : Nat → Nat → Nat) (v t : Int32) : (Nat → Nat → Nat) × Int32 := if hasN (V 0 0) v = true ∧ hasN 12 t = true then (if V 1 (ix v) = 0 ∧ kRum V (ix v * 12 + ix t) = true then (kTb V (ix v) (ix t), nI (V 2 (ix v) + 1)) else (V, -1000002)) else (V, -1000001)
def kTwo (V : Nat → Nat → Nat) (v u : Int32) : Bool := hasN (V 0 0) v && (hasN (V 0 0) u && decide (v ≠ u))
def kHand (V : Nat → Nat → Nat) (t f p : Nat) : Bool := if V 6 (f * 12 + t) = 1 then decide (V 5 (f * 12 + t) % 8 = f) else if V 6 (f * 12 + t) = 2 then decide (V 5 (f * 12 + t) % 8 = f ∧ f < p) else true
theorem swK (c : Nat) : Op.lookupswitch.offset [((1 : Int), (27 : Int)), (2, 29)] 43 (c : Int) = if c = 1 then 27 else if c = 2 then 29 else 43 := by
  simp only [Op.lookupswitch.offset_cons, Op.lookupswitch.offset_nil]
  have e : ∀ n : Nat, ((n : Int) = (c : Int)) = (c = n) := fun n => propext ⟨fun h => by omega, fun h => by omega⟩
  rw [show (1 : Int) = ((1 : Nat) : Int) from rfl, show (2 : Int) = ((2 : Nat) : Int) from rfl]
  simp only [e]
def kMay (k x y : Nat) : Bool := if k = 1 then decide (x = 1) else if k = 2 then decide (x = 1 ∧ y = 1) else true
theorem kHM {V : Nat → Nat → Nat} {t f p x y : Nat} (h1 : x = 1 ↔ V 5 (f * 12 + t) % 8 = f) (h2 : y = 1 ↔ f < p) : kHand V t f p = kMay (V 6 (f * 12 + t)) x y := by
  unfold kHand kMay
  rw [decide_eq_decide.mpr h1, decide_eq_decide.mpr (and_congr h1 h2)]
def kGv (V : Nat → Nat → Nat) (a b t : Nat) : Nat := if V 5 (a * 12 + t) = V 5 (b * 12 + t) then 0 else if V 5 (b * 12 + t) < V 5 (a * 12 + t) then (if kHand V t a b = true then a + 1 else 0) else (if kHand V t b a = true then b + 1 else 0)
def kH1 (V : Nat → Nat → Nat) (t f p : Nat) : Nat → Nat → Nat := if kRum V (f * 12 + t) = true ∧ V 5 (f * 12 + t) < V 10 (p * 12 + t) then vU V 4 p (V 4 p + 1) else V
def kH2 (V : Nat → Nat → Nat) (f p : Nat) : Nat → Nat → Nat := vU (vU (vU (vU (vU V 5 p (V 5 f)) 6 p (V 6 f)) 7 p (V 7 f)) 8 p (V 8 f)) 9 p (V 9 f)
def kHn (V : Nat → Nat → Nat) (t f p : Nat) : Nat → Nat → Nat := kH2 (kH1 V t f p) (f * 12 + t) (p * 12 + t)
def kBoth (V : Nat → Nat → Nat) (a b t : Nat) : Nat := V 9 (a * 12 + t) ||| V 9 (b * 12 + t) ||| 2 ^ a ||| 2 ^ b
def kSh (V : Nat → Nat → Nat) (a b t : Nat) : Nat → Nat → Nat := if kTmb V (a * 12 + t) = true ∧ V 5 (a * 12 + t) = V 5 (b * 12 + t) then vU (vU V 9 (a * 12 + t) (kBoth V a b t)) 9 (b * 12 + t) (kBoth V a b t) else V
abbrev rm_X2_copyFrom : Room := { frames := 2, cells := 0, slots := 0, locals := 48 }
set_option maxHeartbeats 800000 in
set_option maxRecDepth 20000 in
theorem c_X2_copyFrom {l : Launch} {g : Geo} {w : WD} {V : Nat → Nat → Nat} {o o2 : Nat} (ho : o < 7) (ho2 : o2 < 7) (hne : o2 ≠ o) : CtV l g yX2_copyFrom cX2_copyFrom 2 none rm_X2_copyFrom [.ref (g_ad g o 0), .ref (g_ad g o2 0)] (wO w o V) (wO w o (kCp V (w.1 o2))) := by
  refine ct_of mi_X2_copyFrom.2.2.2.2.2 ⟨rfl, rfl⟩ (List.forall_mem_cons.mpr ⟨rfl, List.forall_mem_cons.mpr ⟨rfl, fun _ h => absurd h List.not_mem_nil⟩⟩) (Nat.le_of_ble_eq_true rfl) (fun P hX => ?_)
  replace hX : Gd l g RX2 cX2_copyFrom rm_X2_copyFrom 2 none _ _ P := hX
  show P (wO w o V) 0 [some (.ref (g_ad g o 0)), some (.ref (g_ad g o2 0))] []
  refine pw_aload_n hX rfl dX2_copyFrom_0 (q := 1) rfl ?_
  refine pw_aload_n hX rfl dX2_copyFrom_1 (q := 2) rfl ?_
  refine pw_getV hX ho2 0 (by decide) fl_X2_9 rfl dX2_copyFrom_2 (q := 5) rfl ?_
  rw [wO_n _ _ hne]
  refine pw_putVF hX ho 0 (by decide) fl_X2_9 dX2_copyFrom_5 (q := 8) rfl ?_
  refine pw_aload_n hX rfl dX2_copyFrom_8 (q := 9) rfl ?_
  refine pw_aload_n hX rfl dX2_copyFrom_9 (q := 10) rfl ?_
  refine pw_getV hX ho2 1 (by decide) fl_X2_15 rfl dX2_copyFrom_10 (q := 13) rfl ?_
  rw [wO_n _ _ hne]
  refine pw_putVF hX ho 1 (by decide) fl_X2_15 dX2_copyFrom_13 (q := 16) rfl ?_
  refine pw_aload_n hX rfl dX2_copyFrom_16 (q := 17) rfl ?_
  refine pw_aload_n hX rfl dX2_copyFrom_17 (q := 18) rfl ?_
  refine pw_getV hX ho2 2 (by decide) fl_X2_18 rfl dX2_copyFrom_18 (q := 21) rfl ?_
  rw [wO_n _ _ hne]
  refine pw_putVF hX ho 2 (by decide) fl_X2_18 dX2_copyFrom_21 (q := 24) rfl ?_
  refine pw_aload_n hX rfl dX2_copyFrom_24 (q := 25) rfl ?_
  refine pw_aload_n hX rfl dX2_copyFrom_25 (q := 26) rfl ?_
  refine pw_getV hX ho2 3 (by decide) fl_X2_21 rfl dX2_copyFrom_26 (q := 29) rfl ?_
  rw [wO_n _ _ hne]
  refine pw_putVF hX ho 3 (by decide) fl_X2_21 dX2_copyFrom_29 (q := 32) rfl ?_
  refine pw_aload_n hX rfl dX2_copyFrom_32 (q := 33) rfl ?_
  refine pw_getV hX ho2 4 (by decide) fl_X2_24 rfl dX2_copyFrom_33 (q := 36) rfl ?_
  refine pw_aload_n hX rfl dX2_copyFrom_36 (q := 37) rfl ?_
  refine pw_getVF hX ho 4 (by decide) fl_X2_24 rfl dX2_copyFrom_37 (q := 40) rfl ?_
  refine pw_bipush hX (k := 7) (by decide) dX2_copyFrom_40 (q := 42) rfl ?_
  refine pw_csV3 hX dX2_copyFrom_42 (q := 45) rfl mi_X2_copyRow ml_X2_58 ⟨rfl, rfl, by decide, by decide⟩ rfl (Nat.le_of_ble_eq_true rfl) (c_X2_copyRow (dmV ho2 (by decide)) (by decide) (by omega) (g_chV ho2) (g_lnV ho2) (dmV ho (by decide)) (by decide) (by omega) (g_chV ho) (g_lnV ho)) ?_
  rw [wA_wO, wO_n _ _ hne]
  refine pw_aload_n hX rfl dX2_copyFrom_45 (q := 46) rfl ?_
  refine pw_getV hX ho2 5 (by decide) fl_X2_28 rfl dX2_copyFrom_46 (q := 49) rfl ?_
  refine pw_aload_n hX rfl dX2_copyFrom_49 (q := 50) rfl ?_
  refine pw_getVF hX ho 5 (by decide) fl_X2_28 rfl dX2_copyFrom_50 (q := 53) rfl ?_
  refine pw_bipush hX (k := 7) (by decide) dX2_copyFrom_53 (q := 55) rfl ?_
  refine pw_csV3 hX dX2_copyFrom_55 (q := 58) rfl mi_X2_copyRow ml_X2_58 ⟨rfl, rfl, by decide, by decide⟩ rfl (Nat.le_of_ble_eq_true rfl) (c_X2_copyRow (dmV ho2 (by decide)) (by decide) (by omega) (g_chV ho2) (g_lnV ho2) (dmV ho (by decide)) (by decide) (by omega) (g_chV ho) (g_lnV ho)) ?_
  rw [wA_wO, wO_n _ _ hne]
  refine pw_aload_n hX rfl dX2_copyFrom_58 (q := 59) rfl ?_
  refine pw_getV hX ho2 6 (by decide) fl_X2_31 rfl dX2_copyFrom_59 (q := 62) rfl ?_
  refine pw_aload_n hX rfl dX2_copyFrom_62 (q := 63) rfl ?_
  refine pw_getVF hX ho 6 (by decide) fl_X2_31 rfl dX2_copyFrom_63 (q := 66) rfl ?_
  refine pw_bipush hX (k := 7) (by decide) dX2_copyFrom_66 (q := 68) rfl ?_
  refine pw_csV3 hX dX2_copyFrom_68 (q := 71) rfl mi_X2_copyRow ml_X2_58 ⟨rfl, rfl, by decide, by decide⟩ rfl (Nat.le_of_ble_eq_true rfl) (c_X2_copyRow (dmV ho2 (by decide)) (by decide) (by omega) (g_chV ho2) (g_lnV ho2) (dmV ho (by decide)) (by decide) (by omega) (g_chV ho) (g_lnV ho)) ?_
  rw [wA_wO, wO_n _ _ hne]
  refine pw_aload_n hX rfl dX2_copyFrom_71 (q := 72) rfl ?_
  refine pw_getV hX ho2 7 (by decide) fl_X2_34 rfl dX2_copyFrom_72 (q := 75) rfl ?_
  refine pw_aload_n hX rfl dX2_copyFrom_75 (q := 76) rfl ?_
  refine pw_getVF hX ho 7 (by decide) fl_X2_34 rfl dX2_copyFrom_76 (q := 79) rfl ?_
  refine pw_bipush hX (k := 7) (by decide) dX2_copyFrom_79 (q := 81) rfl ?_
  refine pw_csV3 hX dX2_copyFrom_81 (q := 84) rfl mi_X2_copyRow ml_X2_58 ⟨rfl, rfl, by decide, by decide⟩ rfl (Nat.le_of_ble_eq_true rfl) (c_X2_copyRow (dmV ho2 (by decide)) (by decide) (by omega) (g_chV ho2) (g_lnV ho2) (dmV ho (by decide)) (by decide) (by omega) (g_chV ho) (g_lnV ho)) ?_
  rw [wA_wO, wO_n _ _ hne]
  refine pw_aload_n hX rfl dX2_copyFrom_84 (q := 85) rfl ?_
  refine pw_getV hX ho2 8 (by decide) fl_X2_37 rfl dX2_copyFrom_85 (q := 88) rfl ?_
  refine pw_aload_n hX rfl dX2_copyFrom_88 (q := 89) rfl ?_
  refine pw_getVF hX ho 8 (by decide) fl_X2_37 rfl dX2_copyFrom_89 (q := 92) rfl ?_
  refine pw_bipush hX (k := 84) (by decide) dX2_copyFrom_92 (q := 94) rfl ?_
  refine pw_csV3 hX dX2_copyFrom_94 (q := 97) rfl mi_X2_copyRow ml_X2_58 ⟨rfl, rfl, by decide, by decide⟩ rfl (Nat.le_of_ble_eq_true rfl) (c_X2_copyRow (dmV ho2 (by decide)) (by decide) (by omega) (g_chV ho2) (g_lnV ho2) (dmV ho (by decide)) (by decide) (by omega) (g_chV ho) (g_lnV ho)) ?_
  rw [wA_wO, wO_n _ _ hne]
  refine pw_aload_n hX rfl dX2_copyFrom_97 (q := 98) rfl ?_
  refine pw_getV hX ho2 9 (by decide) fl_X2_40 rfl dX2_copyFrom_98 (q := 101) rfl ?_
  refine pw_aload_n hX rfl dX2_copyFrom_101 (q := 102) rfl ?_
  refine pw_getVF hX ho 9 (by decide) fl_X2_40 rfl dX2_copyFrom_102 (q := 105) rfl ?_
  refine pw_bipush hX (k := 84) (by decide) dX2_copyFrom_105 (q := 107) rfl ?_
  refine pw_csV3 hX dX2_copyFrom_107 (q := 110) rfl mi_X2_copyRow ml_X2_58 ⟨rfl, rfl, by decide, by decide⟩ rfl (Nat.le_of_ble_eq_true rfl) (c_X2_copyRow (dmV ho2 (by decide)) (by decide) (by omega) (g_chV ho2) (g_lnV ho2) (dmV ho (by decide)) (by decide) (by omega) (g_chV ho) (g_lnV ho)) ?_
  rw [wA_wO, wO_n _ _ hne]
  refine pw_aload_n hX rfl dX2_copyFrom_110 (q := 111) rfl ?_
  refine pw_getV hX ho2 10 (by decide) fl_X2_43 rfl dX2_copyFrom_111 (q := 114) rfl ?_
  refine pw_aload_n hX rfl dX2_copyFrom_114 (q := 115) rfl ?_
  refine pw_getVF hX ho 10 (by decide) fl_X2_43 rfl dX2_copyFrom_115 (q := 118) rfl ?_
  refine pw_bipush hX (k := 84) (by decide) dX2_copyFrom_118 (q := 120) rfl ?_
  refine pw_csV3 hX dX2_copyFrom_120 (q := 123) rfl mi_X2_copyRow ml_X2_58 ⟨rfl, rfl, by decide, by decide⟩ rfl (Nat.le_of_ble_eq_true rfl) (c_X2_copyRow (dmV ho2 (by decide)) (by decide) (by omega) (g_chV ho2) (g_lnV ho2) (dmV ho (by decide)) (by decide) (by omega) (g_chV ho) (g_lnV ho)) ?_
  rw [wA_wO, wO_n _ _ hne]
  refine pw_aload_n hX rfl dX2_copyFrom_123 (q := 124) rfl ?_
  refine pw_getV hX ho2 11 (by decide) fl_X2_46 rfl dX2_copyFrom_124 (q := 127) rfl ?_
  refine pw_aload_n hX rfl dX2_copyFrom_127 (q := 128) rfl ?_
  refine pw_getVF hX ho 11 (by decide) fl_X2_46 rfl dX2_copyFrom_128 (q := 131) rfl ?_
  refine pw_bipush hX (k := 84) (by decide) dX2_copyFrom_131 (q := 133) rfl ?_
  refine pw_csV3 hX dX2_copyFrom_133 (q := 136) rfl mi_X2_copyRow ml_X2_58 ⟨rfl, rfl, by decide, by decide⟩ rfl (Nat.le_of_ble_eq_true rfl) (c_X2_copyRow (dmV ho2 (by decide)) (by decide) (by omega) (g_chV ho2) (g_lnV ho2) (dmV ho (by decide)) (by decide) (by omega) (g_chV ho) (g_lnV ho)) ?_
  rw [wA_wO, wO_n _ _ hne]
  refine pw_aload_n hX rfl dX2_copyFrom_136 (q := 137) rfl ?_
  refine pw_getV hX ho2 12 (by decide) fl_X2_49 rfl dX2_copyFrom_137 (q := 140) rfl ?_
  refine pw_aload_n hX rfl dX2_copyFrom_140 (q := 141) rfl ?_
  refine pw_getVF hX ho 12 (by decide) fl_X2_49 rfl dX2_copyFrom_141 (q := 144) rfl ?_
  refine pw_bipush hX (k := 84) (by decide) dX2_copyFrom_144 (q := 146) rfl ?_
  refine pw_csV3 hX dX2_copyFrom_146 (q := 149) rfl mi_X2_copyRow ml_X2_58 ⟨rfl, rfl, by decide, by decide⟩ rfl (Nat.le_of_ble_eq_true rfl) (c_X2_copyRow (dmV ho2 (by decide)) (by decide) (by omega) (g_chV ho2) (g_lnV ho2) (dmV ho (by decide)) (by decide) (by omega) (g_chV ho) (g_lnV ho)) ?_
  rw [wA_wO, wO_n _ _ hne]
  refine pw_aload_n hX rfl dX2_copyFrom_149 (q := 150) rfl ?_
  refine pw_getV hX ho2 13 (by decide) fl_X2_52 rfl dX2_copyFrom_150 (q := 153) rfl ?_
  refine pw_aload_n hX rfl dX2_copyFrom_153 (q := 154) rfl ?_
  refine pw_getVF hX ho 13 (by decide) fl_X2_52 rfl dX2_copyFrom_154 (q := 157) rfl ?_
  refine pw_bipush hX (k := 84) (by decide) dX2_copyFrom_157 (q := 159) rfl ?_
  refine pw_csV3 hX dX2_copyFrom_159 (q := 162) rfl mi_X2_copyRow ml_X2_58 ⟨rfl, rfl, by decide, by decide⟩ rfl (Nat.le_of_ble_eq_true rfl) (c_X2_copyRow (dmV ho2 (by decide)) (by decide) (by omega) (g_chV ho2) (g_lnV ho2) (dmV ho (by decide)) (by decide) (by omega) (g_chV ho) (g_lnV ho)) ?_
  rw [wA_wO, wO_n _ _ hne]
  refine pw_aload_n hX rfl dX2_copyFrom_162 (q := 163) rfl ?_
  refine pw_getV hX ho2 14 (by decide) fl_X2_55 rfl dX2_copyFrom_163 (q := 166) rfl ?_
  refine pw_aload_n hX rfl dX2_copyFrom_166 (q := 167) rfl ?_
  refine pw_getVF hX ho 14 (by decide) fl_X2_55 rfl dX2_copyFrom_167 (q := 170) rfl ?_
  refine pw_bipush hX (k := 12) (by decide) dX2_copyFrom_170 (q := 172) rfl ?_
  refine pw_csV3 hX dX2_copyFrom_172 (q := 175) rfl mi_X2_copyRow ml_X2_58 ⟨rfl, rfl, by decide, by decide⟩ rfl (Nat.le_of_ble_eq_true rfl) (c_X2_copyRow (dmV ho2 (by decide)) (by decide) (by omega) (g_chV ho2) (g_lnV ho2) (dmV ho (by decide)) (by decide) (by omega) (g_chV ho) (g_lnV ho)) ?_
  rw [wA_wO, wO_n _ _ hne]
  refine pw_return hX dX2_copyFrom_175 rfl ⟨rfl, ?_⟩
  rw [kCp_e]
abbrev rm_X2_makeRumor : Room := { frames := 2, cells := 0, slots := 0, locals := 42 }
set_option maxHeartbeats 800000 in
set_option maxRecDepth 20000 in
theorem c_X2_makeRumor {l : Launch} {g : Geo} {w : WD} {V : Nat → Nat → Nat} {o : Nat} {v t a k : Int32} (ho : o < 7) (hV : bV V) : CtI l g yX2_makeRumor cX2_makeRumor 6 (some .int) rm_X2_makeRumor [.ref (g_ad g o 0), .int v, .int t, .int a, .int k] (wO w o V) ((kMR V v t a k).2) (wO w o (kMR V v t a k).1) := by
  refine ct_of mi_X2_makeRumor.2.2.2.2.2 ⟨rfl, rfl⟩ (List.forall_mem_cons.mpr ⟨rfl, List.forall_mem_cons.mpr ⟨rfl, List.forall_mem_cons.mpr ⟨rfl, List.forall_mem_cons.mpr ⟨rfl, List.forall_mem_cons.mpr ⟨rfl, fun _ h => absurd h List.not_mem_nil⟩⟩⟩⟩⟩) (Nat.le_of_ble_eq_true rfl) (fun P hX => ?_)
  replace hX : Gd l g RX2 cX2_makeRumor rm_X2_makeRumor 6 (some .int) _ _ P := hX
  show P (wO w o V) 0 [some (.ref (g_ad g o 0)), some (.int v), some (.int t), some (.int a), some (.int k), none] []
  refine pw_aload_n hX rfl dX2_makeRumor_0 (q := 1) rfl ?_
  refine pw_iload_n hX rfl dX2_makeRumor_1 (q := 2) rfl ?_
  refine pw_cvI1 hX dX2_makeRumor_2 (q := 5) rfl mi_X2_has ml_X2_68 (rcV ho) ⟨rfl, rfl, by decide, by decide⟩ rfl (Nat.le_of_ble_eq_true rfl) (c_X2_has (by first | assumption | omega) (by first | assumption | omega)) ?_
  refine pw_ifB_eq hX (tgt := 36) dX2_makeRumor_5 (q := 8) rfl (by decide) (fun h_5 => ?_) (fun h_5 => ?_)
  · have hz : ¬ (hasN (V 0 0) v = true ∧ hasN 12 t = true ∧ inN 0 99 a = true ∧ inN 0 2 k = true) := fun z => by rw [h_5] at z; exact absurd z.1 (by decide)
    refine pw_ldc hX cn_X2_73 dX2_makeRumor_36 (q := 38) rfl ?_
    refine pw_ireturn hX dX2_makeRumor_38 ⟨_, rfl, rfl⟩ ⟨congrArg (fun z => some (Value.int z)) ?_, ?_⟩
    · rw [kMR, if_neg hz]
    · rw [kMR, if_neg hz]
  · obtain ⟨i, hi, rfl⟩ := hasN_of (bV_0 hV) h_5
    have hx : ix (nI i) = i := ix_nI (by have := hV.2.2.2.1; omega)
    have h7 := hV.2.2.2.1
    refine pw_iload_n hX rfl dX2_makeRumor_8 (q := 9) rfl ?_
    refine pw_cnI1 hX dX2_makeRumor_9 (q := 12) rfl mi_X3_isTopic mn_X2_116 ⟨rfl, rfl, by decide, by decide⟩ rfl (Nat.le_of_ble_eq_true rfl) (c_X3_isTopic) ?_
    refine pw_ifB_eq hX (tgt := 36) dX2_makeRumor_12 (q := 15) rfl (by decide) (fun h_12 => ?_) (fun h_12 => ?_)
    · have hz : ¬ (hasN (V 0 0) (nI i) = true ∧ hasN 12 t = true ∧ inN 0 99 a = true ∧ inN 0 2 k = true) := fun z => by rw [h_12] at z; exact absurd z.2.1 (by decide)
      refine pw_ldc hX cn_X2_73 dX2_makeRumor_36 (q := 38) rfl ?_
      refine pw_ireturn hX dX2_makeRumor_38 ⟨_, rfl, rfl⟩ ⟨congrArg (fun z => some (Value.int z)) ?_, ?_⟩
      · rw [kMR, if_neg hz]
      · rw [kMR, if_neg hz]
    · obtain ⟨j, hj, rfl⟩ := hasN_of (by decide) h_12
      have hxj : ix (nI j) = j := ix_nI (by omega)
      refine pw_iload_n hX rfl dX2_makeRumor_15 (q := 16) rfl ?_
      refine pw_if_lt hX (tgt := 36) dX2_makeRumor_16 (q := 19) rfl (by decide) (fun h_16 => ?_) (fun h_16 => ?_)
      · have hz : ¬ (hasN (V 0 0) (nI i) = true ∧ hasN 12 (nI j) = true ∧ inN 0 99 a = true ∧ inN 0 2 k = true) := fun z => by rw [inN_lo0 h_16] at z; exact absurd z.2.2.1 (by decide)
        refine pw_ldc hX cn_X2_73 dX2_makeRumor_36 (q := 38) rfl ?_
        refine pw_ireturn hX dX2_makeRumor_38 ⟨_, rfl, rfl⟩ ⟨congrArg (fun z => some (Value.int z)) ?_, ?_⟩
        · rw [kMR, if_neg hz]
        · rw [kMR, if_neg hz]
      · refine pw_iload_n hX rfl dX2_makeRumor_19 (q := 20) rfl ?_
        refine pw_bipush hX (k := 99) (by decide) dX2_makeRumor_20 (q := 22) rfl ?_
        refine pw_icmp_gt hX (tgt := 36) dX2_makeRumor_22 (q := 25) rfl (by decide) (fun h_22 => ?_) (fun h_22 => ?_)
        · have hz : ¬ (hasN (V 0 0) (nI i) = true ∧ hasN 12 (nI j) = true ∧ inN 0 99 a = true ∧ inN 0 2 k = true) := fun z => by rw [inN_hi (by decide) h_22] at z; exact absurd z.2.2.1 (by decide)
          refine pw_ldc hX cn_X2_73 dX2_makeRumor_36 (q := 38) rfl ?_
          refine pw_ireturn hX dX2_makeRumor_38 ⟨_, rfl, rfl⟩ ⟨congrArg (fun z => some (Value.int z)) ?_, ?_⟩
          · rw [kMR, if_neg hz]
          · rw [kMR, if_neg hz]
        · refine pw_iload hX rfl dX2_makeRumor_25 (q := 27) rfl ?_
          refine pw_if_lt hX (tgt := 36) dX2_makeRumor_27 (q := 30) rfl (by decide) (fun h_27 => ?_) (fun h_27 => ?_)
          · have hz : ¬ (hasN (V 0 0) (nI i) = true ∧ hasN 12 (nI j) = true ∧ inN 0 99 a = true ∧ inN 0 2 k = true) := fun z => by rw [inN_lo0 h_27] at z; exact absurd z.2.2.2 (by decide)
            refine pw_ldc hX cn_X2_73 dX2_makeRumor_36 (q := 38) rfl ?_
            refine pw_ireturn hX dX2_makeRumor_38 ⟨_, rfl, rfl⟩ ⟨congrArg (fun z => some (Value.int z)) ?_, ?_⟩
            · rw [kMR, if_neg hz]
            · rw [kMR, if_neg hz]
          · refine pw_iload hX rfl dX2_makeRumor_30 (q := 32) rfl ?_
            refine pw_iconst hX (k := 2) rfl (by decide) dX2_makeRumor_32 (q := 33) rfl ?_
            refine pw_icmp_le hX (tgt := 39) dX2_makeRumor_33 (q := 36) rfl (by decide) (fun h_33 => ?_) (fun h_33 => ?_)
            · obtain ⟨x, -, hx3, rfl⟩ := inN_of (by decide) (inN_ok0 (by decide) h_16 h_22)
              obtain ⟨y, -, hy3, rfl⟩ := inN_of (by decide) (inN_ok0 (by decide) h_27 (Int32.not_lt.mpr h_33))
              have hc : (hasN (V 0 0) (nI i) = true ∧ hasN 12 (nI j) = true ∧ inN 0 99 (nI x) = true ∧ inN 0 2 (nI y) = true) := ⟨h_5, h_12, by rw [inN_nI (by omega)]; exact decide_eq_true ⟨Nat.zero_le _, hx3⟩, by rw [inN_nI (by omega)]; exact decide_eq_true ⟨Nat.zero_le _, hy3⟩⟩
              have hxx : ix (nI x) = x := ix_nI (by omega)
              have hxy : ix (nI y) = y := ix_nI (by omega)
              refine pw_aload_n hX rfl dX2_makeRumor_39 (q := 40) rfl ?_
              refine pw_iload_n hX rfl dX2_makeRumor_40 (q := 41) rfl ?_
              refine pw_cvI1 hX dX2_makeRumor_41 (q := 44) rfl mi_X2_isAwake ml_X2_74 (rcV ho) ⟨rfl, rfl, by decide, by decide⟩ rfl (Nat.le_of_ble_eq_true rfl) (c_X2_isAwake (by first | assumption | omega) (by first | assumption | omega)) ?_
              rw [kAw_n h_5 hx]
              refine pw_ifB_ne hX (tgt := 50) dX2_makeRumor_44 (q := 47) rfl (by decide) (fun h_44 => ?_) (fun h_44 => ?_)
              · have h_44 := of_decide_eq_true h_44
                refine pw_iload_n hX rfl dX2_makeRumor_50 (q := 51) rfl ?_
                refine pw_iload_n hX rfl dX2_makeRumor_51 (q := 52) rfl ?_
                refine pw_cnI2 hX dX2_makeRumor_52 (q := 55) rfl mi_X3_place mn_X2_88 ⟨rfl, rfl, by decide, by decide⟩ rfl (Nat.le_of_ble_eq_true rfl) (c_X3_place) ?_
                refine pw_istore hX (by decide) dX2_makeRumor_55 (q := 57) rfl ?_
                refine pw_aload_n hX rfl dX2_makeRumor_57 (q := 58) rfl ?_
                refine pw_iload_n hX rfl dX2_makeRumor_58 (q := 59) rfl ?_
                refine pw_iload hX rfl dX2_makeRumor_59 (q := 61) rfl ?_
                refine pw_iload hX rfl dX2_makeRumor_61 (q := 63) rfl ?_
                refine pw_cvV3 hX dX2_makeRumor_63 (q := 66) rfl mi_X2_write ml_X2_119 (rcV ho) ⟨rfl, rfl, by decide, by decide⟩ rfl (Nat.le_of_ble_eq_true rfl) (c_X2_write ho (by omega) (by omega)) ?_
                refine pw_aload_n hX rfl dX2_makeRumor_66 (q := 67) rfl ?_
                refine pw_getVF hX ho 10 (by decide) fl_X2_43 rfl dX2_makeRumor_67 (q := 70) rfl ?_
                refine pw_iload hX rfl dX2_makeRumor_70 (q := 72) rfl ?_
                refine pw_iload_n hX rfl dX2_makeRumor_72 (q := 73) rfl ?_
                refine pw_iastVF hX ho 7 (by decide) (show _ < 84 by omega) dX2_makeRumor_73 (q := 74) rfl ?_
                refine pw_aload_n hX rfl dX2_makeRumor_74 (q := 75) rfl ?_
                refine pw_getVF hX ho 5 (by decide) fl_X2_28 rfl dX2_makeRumor_75 (q := 78) rfl ?_
                refine pw_iload_n hX rfl dX2_makeRumor_78 (q := 79) rfl ?_
                refine pw_ialdVF hX ho 2 (by decide) (show _ < 7 by omega) dX2_makeRumor_79 (q := 80) rfl ?_
                rw [show vU (kWr V i (i * 12 + j) y) 7 (i * 12 + j) x 2 i = upN (V 2) i (V 2 i + 1) i from rfl, upN_s]
                refine pw_ireturn hX dX2_makeRumor_80 ⟨_, rfl, rfl⟩ ⟨congrArg (fun z => some (Value.int z)) ?_, ?_⟩
                · rw [kMR, if_pos hc, hx, hxj, hxx, hxy]; first | rw [if_pos h_44] | rw [if_neg h_44]
                · rw [kMR, if_pos hc, hx, hxj, hxx, hxy]; first | rw [if_pos h_44] | rw [if_neg h_44]
              · have h_44 := of_decide_eq_false h_44
                refine pw_ldc hX cn_X2_77 dX2_makeRumor_47 (q := 49) rfl ?_
                refine pw_ireturn hX dX2_makeRumor_49 ⟨_, rfl, rfl⟩ ⟨congrArg (fun z => some (Value.int z)) ?_, ?_⟩
                · rw [kMR, if_pos hc, hx, hxj, hxx, hxy]; first | rw [if_pos h_44] | rw [if_neg h_44]
                · rw [kMR, if_pos hc, hx, hxj, hxx, hxy]; first | rw [if_pos h_44] | rw [if_neg h_44]
            · have hz : ¬ (hasN (V 0 0) (nI i) = true ∧ hasN 12 (nI j) = true ∧ inN 0 99 a = true ∧ inN 0 2 k = true) := fun z => by rw [inN_hi (by decide) (Int32.not_le.mp h_33)] at z; exact absurd z.2.2.2 (by decide)
              refine pw_ldc hX cn_X2_73 dX2_makeRumor_36 (q := 38) rfl ?_
              refine pw_ireturn hX dX2_makeRumor_38 ⟨_, rfl, rfl⟩ ⟨congrArg (fun z => some (Value.int z)) ?_, ?_⟩
              · rw [kMR, if_neg hz]
              · rw [kMR, if_neg hz]
abbrev rm_X2_makeTomb : Room := { frames := 2, cells := 0, slots := 0, locals := 42 }
set_option maxHeartbeats 800000 in
set_option maxRecDepth 20000 in
theorem c_X2_makeTomb {l : Launch} {g : Geo} {w : WD} {V : Nat → Nat → Nat} {o : Nat} {v t : Int32} (ho : o < 7) (hV : bV V) (hc2 : ∀ i, i < 7 → (V 2 i + 1) * 8 + i < 2 ^ 30) : CtI l g yX2_makeTomb cX2_makeTomb 4 (some .int) rm_X2_makeTomb [.ref (g_ad g o 0), .int v, .int t] (wO w o V) ((kMT V v t).2) (wO w o (kMT V v t).1) := by
  refine ct_of mi_X2_makeTomb.2.2.2.2.2 ⟨rfl, rfl⟩ (List.forall_mem_cons.mpr ⟨rfl, List.forall_mem_cons.mpr ⟨rfl, List.forall_mem_cons.mpr ⟨rfl, fun _ h => absurd h List.not_mem_nil⟩⟩⟩) (Nat.le_of_ble_eq_true rfl) (fun P hX => ?_)
  replace hX : Gd l g RX2 cX2_makeTomb rm_X2_makeTomb 4 (some .int) _ _ P := hX
  show P (wO w o V) 0 [some (.ref (g_ad g o 0)), some (.int v), some (.int t), none] []
  refine pw_aload_n hX rfl dX2_makeTomb_0 (q := 1) rfl ?_
  refine pw_iload_n hX rfl dX2_makeTomb_1 (q := 2) rfl ?_
  refine pw_cvI1 hX dX2_makeTomb_2 (q := 5) rfl mi_X2_has ml_X2_68 (rcV ho) ⟨rfl, rfl, by decide, by decide⟩ rfl (Nat.le_of_ble_eq_true rfl) (c_X2_has (by first | assumption | omega) (by first | assumption | omega)) ?_
  refine pw_ifB_eq hX (tgt := 15) dX2_makeTomb_5 (q := 8) rfl (by decide) (fun h_5 => ?_) (fun h_5 => ?_)
  · have hz : ¬ (hasN (V 0 0) v = true ∧ hasN 12 t = true) := fun z => by rw [h_5] at z; exact absurd z.1 (by decide)
    refine pw_ldc hX cn_X2_73 dX2_makeTomb_15 (q := 17) rfl ?_
    refine pw_ireturn hX dX2_makeTomb_17 ⟨_, rfl, rfl⟩ ⟨congrArg (fun z => some (Value.int z)) ?_, ?_⟩
    · rw [kMT, if_neg hz]
    · rw [kMT, if_neg hz]
  · obtain ⟨i, hi, rfl⟩ := hasN_of (bV_0 hV) h_5
    have hx : ix (nI i) = i := ix_nI (by have := hV.2.2.2.1; omega)
    have h7 := hV.2.2.2.1
    refine pw_iload_n hX rfl dX2_makeTomb_8 (q := 9) rfl ?_
    refine pw_cnI1 hX dX2_makeTomb_9 (q := 12) rfl mi_X3_isTopic mn_X2_116 ⟨rfl, rfl, by decide, by decide⟩ rfl (Nat.le_of_ble_eq_true rfl) (c_X3_isTopic) ?_
    refine pw_ifB_ne hX (tgt := 18) dX2_makeTomb_12 (q := 15) rfl (by decide) (fun h_12 => ?_) (fun h_12 => ?_)
    · obtain ⟨j, hj, rfl⟩ := hasN_of (by decide) h_12
      have hxj : ix (nI j) = j := ix_nI (by omega)
      refine pw_iload_n hX rfl dX2_makeTomb_18 (q := 19) rfl ?_
      refine pw_iload_n hX rfl dX2_makeTomb_19 (q := 20) rfl ?_
      refine pw_cnI2 hX dX2_makeTomb_20 (q := 23) rfl mi_X3_place mn_X2_88 ⟨rfl, rfl, by decide, by decide⟩ rfl (Nat.le_of_ble_eq_true rfl) (c_X3_place) ?_
      refine pw_istore_n hX (by decide) dX2_makeTomb_23 (q := 24) rfl ?_
      refine pw_aload_n hX rfl dX2_makeTomb_24 (q := 25) rfl ?_
      refine pw_iload_n hX rfl dX2_makeTomb_25 (q := 26) rfl ?_
      refine pw_cvI1 hX dX2_makeTomb_26 (q := 29) rfl mi_X2_isAwake ml_X2_74 (rcV ho) ⟨rfl, rfl, by decide, by decide⟩ rfl (Nat.le_of_ble_eq_true rfl) (c_X2_isAwake (by first | assumption | omega) (by first | assumption | omega)) ?_
      rw [kAw_n h_5 hx]
      refine pw_ifB_eq hX (tgt := 40) dX2_makeTomb_29 (q := 32) rfl (by decide) (fun h_29 => ?_) (fun h_29 => ?_)
      · have h_29 := of_decide_eq_false h_29
        refine pw_ldc hX cn_X2_77 dX2_makeTomb_40 (q := 42) rfl ?_
        refine pw_ireturn hX dX2_makeTomb_42 ⟨_, rfl, rfl⟩ ⟨congrArg (fun z => some (Value.int z)) ?_, ?_⟩
        · rw [kMT, if_pos ⟨h_5, h_12⟩, hx, hxj]; first | rw [if_pos (show V 1 i = 0 ∧ kRum V (i * 12 + j) = true from ⟨h_29, h_37⟩)] | rw [if_neg (show ¬ (V 1 i = 0 ∧ kRum V (i * 12 + j) = true) from fun z => h_29 z.1)] | rw [if_neg (show ¬ (V 1 i = 0 ∧ kRum V (i * 12 + j) = true) from fun z => by rw [h_37] at z; exact absurd z.2 (by decide))]
        · rw [kMT, if_pos ⟨h_5, h_12⟩, hx, hxj]; first | (rw [if_pos (show V 1 i = 0 ∧ kRum V (i * 12 + j) = true from ⟨h_29, h_37⟩)]; rfl) | rw [if_neg (show ¬ (V 1 i = 0 ∧ kRum V (i * 12 + j) = true) from fun z => h_29 z.1)] | rw [if_neg (show ¬ (V 1 i = 0 ∧ kRum V (i * 12 + j) = true) from fun z => by rw [h_37] at z; exact absurd z.2 (by decide))]
      · have h_29 := of_decide_eq_true h_29
        refine pw_aload_n hX rfl dX2_makeTomb_32 (q := 33) rfl ?_
        refine pw_iload_n hX rfl dX2_makeTomb_33 (q := 34) rfl ?_
        refine pw_cvI1 hX dX2_makeTomb_34 (q := 37) rfl mi_X2_isRumor ml_X2_92 (rcV ho) ⟨rfl, rfl, by decide, by decide⟩ rfl (Nat.le_of_ble_eq_true rfl) (c_X2_isRumor ho hV (by omega)) ?_
        refine pw_ifB_ne hX (tgt := 43) dX2_makeTomb_37 (q := 40) rfl (by decide) (fun h_37 => ?_) (fun h_37 => ?_)
        · refine pw_aload_n hX rfl dX2_makeTomb_43 (q := 44) rfl ?_
          refine pw_iload_n hX rfl dX2_makeTomb_44 (q := 45) rfl ?_
          refine pw_iload_n hX rfl dX2_makeTomb_45 (q := 46) rfl ?_
          refine pw_iconst hX (k := 3) rfl (by decide) dX2_makeTomb_46 (q := 47) rfl ?_
          refine pw_cvV3 hX dX2_makeTomb_47 (q := 50) rfl mi_X2_write ml_X2_119 (rcV ho) ⟨rfl, rfl, by decide, by decide⟩ rfl (Nat.le_of_ble_eq_true rfl) (c_X2_write ho (by omega) (by omega)) ?_
          refine pw_aload_n hX rfl dX2_makeTomb_50 (q := 51) rfl ?_
          refine pw_getVF hX ho 11 (by decide) fl_X2_46 rfl dX2_makeTomb_51 (q := 54) rfl ?_
          refine pw_iload_n hX rfl dX2_makeTomb_54 (q := 55) rfl ?_
          refine pw_aload_n hX rfl dX2_makeTomb_55 (q := 56) rfl ?_
          refine pw_getVF hX ho 1 (by decide) fl_X2_15 rfl dX2_makeTomb_56 (q := 59) rfl ?_
          rw [show (kWr V i (i * 12 + j) 3) 0 1 = V 0 1 from rfl]
          refine pw_iastVF hX ho 8 (by decide) (show _ < 84 by omega) dX2_makeTomb_59 (q := 60) rfl ?_
          refine pw_aload_n hX rfl dX2_makeTomb_60 (q := 61) rfl ?_
          refine pw_getVF hX ho 12 (by decide) fl_X2_49 rfl dX2_makeTomb_61 (q := 64) rfl ?_
          refine pw_iload_n hX rfl dX2_makeTomb_64 (q := 65) rfl ?_
          refine pw_iconst hX (k := 1) rfl (by decide) dX2_makeTomb_65 (q := 66) rfl ?_
          refine pw_iload_n hX rfl dX2_makeTomb_66 (q := 67) rfl ?_
          refine pw_ishl1 hX (by omega) dX2_makeTomb_67 (q := 68) rfl ?_
          refine pw_iastVF hX ho 9 (by decide) (show _ < 84 by omega) dX2_makeTomb_68 (q := 69) rfl ?_
          refine pw_aload_n hX rfl dX2_makeTomb_69 (q := 70) rfl ?_
          refine pw_getVF hX ho 14 (by decide) fl_X2_55 rfl dX2_makeTomb_70 (q := 73) rfl ?_
          refine pw_iload_n hX rfl dX2_makeTomb_73 (q := 74) rfl ?_
          refine pw_aload_n hX rfl dX2_makeTomb_74 (q := 75) rfl ?_
          refine pw_getVF hX ho 14 (by decide) fl_X2_55 rfl dX2_makeTomb_75 (q := 78) rfl ?_
          refine pw_iload_n hX rfl dX2_makeTomb_78 (q := 79) rfl ?_
          refine pw_ialdVF hX ho 11 (by decide) (show _ < 12 by omega) dX2_makeTomb_79 (q := 80) rfl ?_
          refine pw_aload_n hX rfl dX2_makeTomb_80 (q := 81) rfl ?_
          refine pw_getVF hX ho 8 (by decide) fl_X2_37 rfl dX2_makeTomb_81 (q := 84) rfl ?_
          refine pw_iload_n hX rfl dX2_makeTomb_84 (q := 85) rfl ?_
          refine pw_ialdVF hX ho 5 (by decide) (show _ < 84 by omega) dX2_makeTomb_85 (q := 86) rfl ?_
          refine pw_max hX dX2_makeTomb_86 (q := 89) rfl ml_X2_123 tw_max_s tw_max_i tw_max_c (by decide) (Nat.le_of_ble_eq_true rfl) ?_
          rw [show vU (vU (kWr V i (i * 12 + j) 3) 8 (i * 12 + j) (V 0 1)) 9 (i * 12 + j) (2 ^ i) 11 j = V 11 j from rfl, show vU (vU (kWr V i (i * 12 + j) 3) 8 (i * 12 + j) (V 0 1)) 9 (i * 12 + j) (2 ^ i) 5 (i * 12 + j) = upN (V 5) (i * 12 + j) ((V 2 i + 1) * 8 + i) (i * 12 + j) from rfl, upN_s, n_max (bV12 hV hj) (by have := hc2 i (by omega); omega)]
          refine pw_iastVF hX ho 11 (by decide) (show _ < 12 by omega) dX2_makeTomb_89 (q := 90) rfl ?_
          refine pw_aload_n hX rfl dX2_makeTomb_90 (q := 91) rfl ?_
          refine pw_dup hX rfl dX2_makeTomb_91 (q := 92) rfl ?_
          refine pw_getVF hX ho 3 (by decide) fl_X2_21 rfl dX2_makeTomb_92 (q := 95) rfl ?_
          rw [show vU (vU (vU (kWr V i (i * 12 + j) 3) 8 (i * 12 + j) (V 0 1)) 9 (i * 12 + j) (2 ^ i)) 11 j (mx (V 11 j) ((V 2 i + 1) * 8 + i)) 0 3 = V 0 3 from rfl]
          refine pw_iconst hX (k := 1) rfl (by decide) dX2_makeTomb_95 (q := 96) rfl ?_
          refine pw_iaddN hX dX2_makeTomb_96 (q := 97) rfl ?_
          refine pw_putVF hX ho 3 (by decide) fl_X2_21 dX2_makeTomb_97 (q := 100) rfl ?_
          refine pw_aload_n hX rfl dX2_makeTomb_100 (q := 101) rfl ?_
          refine pw_getVF hX ho 5 (by decide) fl_X2_28 rfl dX2_makeTomb_101 (q := 104) rfl ?_
          refine pw_iload_n hX rfl dX2_makeTomb_104 (q := 105) rfl ?_
          refine pw_ialdVF hX ho 2 (by decide) (show _ < 7 by omega) dX2_makeTomb_105 (q := 106) rfl ?_
          rw [show vU (vU (vU (vU (kWr V i (i * 12 + j) 3) 8 (i * 12 + j) (V 0 1)) 9 (i * 12 + j) (2 ^ i)) 11 j (mx (V 11 j) ((V 2 i + 1) * 8 + i))) 0 3 (V 0 3 + 1) 2 i = upN (V 2) i (V 2 i + 1) i from rfl, upN_s]
          refine pw_ireturn hX dX2_makeTomb_106 ⟨_, rfl, rfl⟩ ⟨congrArg (fun z => some (Value.int z)) ?_, ?_⟩
          · rw [kMT, if_pos ⟨h_5, h_12⟩, hx, hxj]; first | rw [if_pos (show V 1 i = 0 ∧ kRum V (i * 12 + j) = true from ⟨h_29, h_37⟩)] | rw [if_neg (show ¬ (V 1 i = 0 ∧ kRum V (i * 12 + j) = true) from fun z => h_29 z.1)] | rw [if_neg (show ¬ (V 1 i = 0 ∧ kRum V (i * 12 + j) = true) from fun z => by rw [h_37] at z; exact absurd z.2 (by decide))]
          · rw [kMT, if_pos ⟨h_5, h_12⟩, hx, hxj]; first | (rw [if_pos (show V 1 i = 0 ∧ kRum V (i * 12 + j) = true from ⟨h_29, h_37⟩)]; rfl) | rw [if_neg (show ¬ (V 1 i = 0 ∧ kRum V (i * 12 + j) = true) from fun z => h_29 z.1)] | rw [if_neg (show ¬ (V 1 i = 0 ∧ kRum V (i * 12 + j) = true) from fun z => by rw [h_37] at z; exact absurd z.2 (by decide))]
        · refine pw_ldc hX cn_X2_77 dX2_makeTomb_40 (q := 42) rfl ?_
          refine pw_ireturn hX dX2_makeTomb_42 ⟨_, rfl, rfl⟩ ⟨congrArg (fun z => some (Value.int z)) ?_, ?_⟩
          · rw [kMT, if_pos ⟨h_5, h_12⟩, hx, hxj]; first | rw [if_pos (show V 1 i = 0 ∧ kRum V (i * 12 + j) = true from ⟨h_29, h_37⟩)] | rw [if_neg (show ¬ (V 1 i = 0 ∧ kRum V (i * 12 + j) = true) from fun z => h_29 z.1)] | rw [if_neg (show ¬ (V 1 i = 0 ∧ kRum V (i * 12 + j) = true) from fun z => by rw [h_37] at z; exact absurd z.2 (by decide))]
          · rw [kMT, if_pos ⟨h_5, h_12⟩, hx, hxj]; first | (rw [if_pos (show V 1 i = 0 ∧ kRum V (i * 12 + j) = true from ⟨h_29, h_37⟩)]; rfl) | rw [if_neg (show ¬ (V 1 i = 0 ∧ kRum V (i * 12 + j) = true) from fun z => h_29 z.1)] | rw [if_neg (show ¬ (V 1 i = 0 ∧ kRum V (i * 12 + j) = true) from fun z => by rw [h_37] at z; exact absurd z.2 (by decide))]
    · have hz : ¬ (hasN (V 0 0) (nI i) = true ∧ hasN 12 t = true) := fun z => by rw [h_12] at z; exact absurd z.2 (by decide)
      refine pw_ldc hX cn_X2_73 dX2_makeTomb_15 (q := 17) rfl ?_
      refine pw_ireturn hX dX2_makeTomb_17 ⟨_, rfl, rfl⟩ ⟨congrArg (fun z => some (Value.int z)) ?_, ?_⟩
      · rw [kMT, if_neg hz]
      · rw [kMT, if_neg hz]
abbrev rm_X2_areTwo : Room := { frames := 1, cells := 0, slots := 0, locals := 21 }
set_option maxHeartbeats 800000 in
set_option maxRecDepth 20000 in
theorem c_X2_areTwo {l : Launch} {g : Geo} {w : WD} {V : Nat → Nat → Nat} {o : Nat} {v u : Int32} (ho : o < 7) (hV : bV V) : CtI l g yX2_areTwo cX2_areTwo 3 (some .boolean) rm_X2_areTwo [.ref (g_ad g o 0), .int v, .int u] (wO w o V) (bI (kTwo V v u)) (wO w o V) := by
  refine ct_of mi_X2_areTwo.2.2.2.2.2 ⟨rfl, rfl⟩ (List.forall_mem_cons.mpr ⟨rfl, List.forall_mem_cons.mpr ⟨rfl, List.forall_mem_cons.mpr ⟨rfl, fun _ h => absurd h List.not_mem_nil⟩⟩⟩) (Nat.le_of_ble_eq_true rfl) (fun P hX => ?_)
  replace hX : Gd l g RX2 cX2_areTwo rm_X2_areTwo 3 (some .boolean) _ _ P := hX
  show P (wO w o V) 0 [some (.ref (g_ad g o 0)), some (.int v), some (.int u)] []
  refine pw_aload_n hX rfl dX2_areTwo_0 (q := 1) rfl ?_
  refine pw_iload_n hX rfl dX2_areTwo_1 (q := 2) rfl ?_
  refine pw_cvI1 hX dX2_areTwo_2 (q := 5) rfl mi_X2_has ml_X2_68 (rcV ho) ⟨rfl, rfl, by decide, by decide⟩ rfl (Nat.le_of_ble_eq_true rfl) (c_X2_has (by first | assumption | omega) (by first | assumption | omega)) ?_
  refine pw_ifB_eq hX (tgt := 25) dX2_areTwo_5 (q := 8) rfl (by decide) (fun h_5 => ?_) (fun h_5 => ?_)
  · refine pw_iconst hX (k := 0) rfl (by decide) dX2_areTwo_25 (q := 26) rfl ?_
    refine pw_ireturn hX dX2_areTwo_26 ⟨_, rfl, by first | exact bI_nar _ | decide | rfl⟩ ⟨congrArg (fun z => some (Value.int z)) ?_, ?_⟩
    · rw [kTwo]; first | (rw [h_5]; rfl) | (rw [h_5, h_13]; rfl) | (rw [h_5, h_13, decide_eq_false (fun z => z h_18)]; rfl) | (rw [h_5, h_13, decide_eq_true h_18]; rfl)
    · rfl
  · refine pw_aload_n hX rfl dX2_areTwo_8 (q := 9) rfl ?_
    refine pw_iload_n hX rfl dX2_areTwo_9 (q := 10) rfl ?_
    refine pw_cvI1 hX dX2_areTwo_10 (q := 13) rfl mi_X2_has ml_X2_68 (rcV ho) ⟨rfl, rfl, by decide, by decide⟩ rfl (Nat.le_of_ble_eq_true rfl) (c_X2_has (by first | assumption | omega) (by first | assumption | omega)) ?_
    refine pw_ifB_eq hX (tgt := 25) dX2_areTwo_13 (q := 16) rfl (by decide) (fun h_13 => ?_) (fun h_13 => ?_)
    · refine pw_iconst hX (k := 0) rfl (by decide) dX2_areTwo_25 (q := 26) rfl ?_
      refine pw_ireturn hX dX2_areTwo_26 ⟨_, rfl, by first | exact bI_nar _ | decide | rfl⟩ ⟨congrArg (fun z => some (Value.int z)) ?_, ?_⟩
      · rw [kTwo]; first | (rw [h_5]; rfl) | (rw [h_5, h_13]; rfl) | (rw [h_5, h_13, decide_eq_false (fun z => z h_18)]; rfl) | (rw [h_5, h_13, decide_eq_true h_18]; rfl)
      · rfl
    · refine pw_iload_n hX rfl dX2_areTwo_16 (q := 17) rfl ?_
      refine pw_iload_n hX rfl dX2_areTwo_17 (q := 18) rfl ?_
      refine pw_icmp_eq hX (tgt := 25) dX2_areTwo_18 (q := 21) rfl (by decide) (fun h_18 => ?_) (fun h_18 => ?_)
      · refine pw_iconst hX (k := 0) rfl (by decide) dX2_areTwo_25 (q := 26) rfl ?_
        refine pw_ireturn hX dX2_areTwo_26 ⟨_, rfl, by first | exact bI_nar _ | decide | rfl⟩ ⟨congrArg (fun z => some (Value.int z)) ?_, ?_⟩
        · rw [kTwo]; first | (rw [h_5]; rfl) | (rw [h_5, h_13]; rfl) | (rw [h_5, h_13, decide_eq_false (fun z => z h_18)]; rfl) | (rw [h_5, h_13, decide_eq_true h_18]; rfl)
        · rfl
      · refine pw_iconst hX (k := 1) rfl (by decide) dX2_areTwo_21 (q := 22) rfl ?_
        refine pw_goto hX (tgt := 26) dX2_areTwo_22 (by decide) ?_
        refine pw_ireturn hX dX2_areTwo_26 ⟨_, rfl, by first | exact bI_nar _ | decide | rfl⟩ ⟨congrArg (fun z => some (Value.int z)) ?_, ?_⟩
        · rw [kTwo]; first | (rw [h_5]; rfl) | (rw [h_5, h_13]; rfl) | (rw [h_5, h_13, decide_eq_false (fun z => z h_18)]; rfl) | (rw [h_5, h_13, decide_eq_true h_18]; rfl)
        · rfl
abbrev rm_X2_mayBeHanded : Room := { frames := 0, cells := 0, slots := 0, locals := 0 }
set_option maxHeartbeats 800000 in
set_option maxRecDepth 20000 in
theorem c_X2_mayBeHanded {l : Launch} {g : Geo} {w : WD} {k x y : Nat} (hk0 : k < 2 ^ 31) (hx : x ≤ 1) (hy : y ≤ 1) : CtI l g yX2_mayBeHanded cX2_mayBeHanded 3 (some .boolean) rm_X2_mayBeHanded [.int (nI k), .int (nI x), .int (nI y)] (w) (bI (kMay k x y)) (w) := by
  refine ct_of mi_X2_mayBeHanded.2.2.2.2 ⟨rfl, rfl⟩ (List.forall_mem_cons.mpr ⟨rfl, List.forall_mem_cons.mpr ⟨rfl, List.forall_mem_cons.mpr ⟨rfl, fun _ h => absurd h List.not_mem_nil⟩⟩⟩) (Nat.le_of_ble_eq_true rfl) (fun P hX => ?_)
  replace hX : Gd l g RX2 cX2_mayBeHanded rm_X2_mayBeHanded 3 (some .boolean) _ _ P := hX
  show P (w) 0 [some (.int (nI k)), some (.int (nI x)), some (.int (nI y))] []
  rcases (show x = 0 ∨ x = 1 by omega) with rfl | rfl <;> rcases (show y = 0 ∨ y = 1 by omega) with rfl | rfl <;> rcases (show k = 1 ∨ k = 2 ∨ (k ≠ 1 ∧ k ≠ 2) by omega) with hk | hk | hk
  · skip
    refine pw_iload_n hX rfl dX2_mayBeHanded_0 (q := 1) rfl ?_
    · refine pw_lookup hX (off := 27) (tgt := 28) dX2_mayBeHanded_1 (by decide) (by rw [nI_toInt hk0]; exact (swK _).trans (if_pos hk)) (by decide) ?_
      refine pw_iload_n hX rfl dX2_mayBeHanded_28 (q := 29) rfl ?_
      refine pw_ireturn hX dX2_mayBeHanded_29 ⟨_, rfl, by first | exact bI_nar _ | decide | rfl⟩ ⟨congrArg (fun z => some (Value.int z)) ?_, ?_⟩
      · rw [kMay, if_pos hk]; rfl
      · rfl
  · skip
    refine pw_iload_n hX rfl dX2_mayBeHanded_0 (q := 1) rfl ?_
    · refine pw_lookup hX (off := 29) (tgt := 30) dX2_mayBeHanded_1 (by decide) (by rw [nI_toInt hk0]; exact (swK _).trans (by rw [if_neg (by omega), if_pos hk])) (by decide) ?_
      refine pw_iload_n hX rfl dX2_mayBeHanded_30 (q := 31) rfl ?_
      refine pw_ifN_eq hX (by first | omega) (tgt := 42) dX2_mayBeHanded_31 (q := 34) rfl (by decide) (fun h_31 => ?_) (fun h_31 => ?_)
      · refine pw_iconst hX (k := 0) rfl (by decide) dX2_mayBeHanded_42 (q := 43) rfl ?_
        refine pw_ireturn hX dX2_mayBeHanded_43 ⟨_, rfl, by first | exact bI_nar _ | decide | rfl⟩ ⟨congrArg (fun z => some (Value.int z)) ?_, ?_⟩
        · rw [kMay, if_neg (by omega), if_pos hk]; first | rfl | (exfalso; omega)
        · rfl
      · refine pw_iload_n hX rfl dX2_mayBeHanded_34 (q := 35) rfl ?_
        refine pw_ifN_eq hX (by first | omega) (tgt := 42) dX2_mayBeHanded_35 (q := 38) rfl (by decide) (fun h_35 => ?_) (fun h_35 => ?_)
        · refine pw_iconst hX (k := 0) rfl (by decide) dX2_mayBeHanded_42 (q := 43) rfl ?_
          refine pw_ireturn hX dX2_mayBeHanded_43 ⟨_, rfl, by first | exact bI_nar _ | decide | rfl⟩ ⟨congrArg (fun z => some (Value.int z)) ?_, ?_⟩
          · rw [kMay, if_neg (by omega), if_pos hk]; first | rfl | (exfalso; omega)
          · rfl
        · refine pw_iconst hX (k := 1) rfl (by decide) dX2_mayBeHanded_38 (q := 39) rfl ?_
          refine pw_goto hX (tgt := 43) dX2_mayBeHanded_39 (by decide) ?_
          refine pw_ireturn hX dX2_mayBeHanded_43 ⟨_, rfl, by first | exact bI_nar _ | decide | rfl⟩ ⟨congrArg (fun z => some (Value.int z)) ?_, ?_⟩
          · rw [kMay, if_neg (by omega), if_pos hk]; first | rfl | (exfalso; omega)
          · rfl
  · skip
    refine pw_iload_n hX rfl dX2_mayBeHanded_0 (q := 1) rfl ?_
    · refine pw_lookup hX (off := 43) (tgt := 44) dX2_mayBeHanded_1 (by decide) (by rw [nI_toInt hk0]; exact (swK _).trans (by rw [if_neg hk.1, if_neg hk.2])) (by decide) ?_
      refine pw_iconst hX (k := 1) rfl (by decide) dX2_mayBeHanded_44 (q := 45) rfl ?_
      refine pw_ireturn hX dX2_mayBeHanded_45 ⟨_, rfl, by first | exact bI_nar _ | decide | rfl⟩ ⟨congrArg (fun z => some (Value.int z)) ?_, ?_⟩
      · rw [kMay, if_neg hk.1, if_neg hk.2]; rfl
      · rfl
  · skip
    refine pw_iload_n hX rfl dX2_mayBeHanded_0 (q := 1) rfl ?_
    · refine pw_lookup hX (off := 27) (tgt := 28) dX2_mayBeHanded_1 (by decide) (by rw [nI_toInt hk0]; exact (swK _).trans (if_pos hk)) (by decide) ?_
      refine pw_iload_n hX rfl dX2_mayBeHanded_28 (q := 29) rfl ?_
      refine pw_ireturn hX dX2_mayBeHanded_29 ⟨_, rfl, by first | exact bI_nar _ | decide | rfl⟩ ⟨congrArg (fun z => some (Value.int z)) ?_, ?_⟩
      · rw [kMay, if_pos hk]; rfl
      · rfl
  · skip
    refine pw_iload_n hX rfl dX2_mayBeHanded_0 (q := 1) rfl ?_
    · refine pw_lookup hX (off := 29) (tgt := 30) dX2_mayBeHanded_1 (by decide) (by rw [nI_toInt hk0]; exact (swK _).trans (by rw [if_neg (by omega), if_pos hk])) (by decide) ?_
      refine pw_iload_n hX rfl dX2_mayBeHanded_30 (q := 31) rfl ?_
      refine pw_ifN_eq hX (by first | omega) (tgt := 42) dX2_mayBeHanded_31 (q := 34) rfl (by decide) (fun h_31 => ?_) (fun h_31 => ?_)
      · refine pw_iconst hX (k := 0) rfl (by decide) dX2_mayBeHanded_42 (q := 43) rfl ?_
        refine pw_ireturn hX dX2_mayBeHanded_43 ⟨_, rfl, by first | exact bI_nar _ | decide | rfl⟩ ⟨congrArg (fun z => some (Value.int z)) ?_, ?_⟩
        · rw [kMay, if_neg (by omega), if_pos hk]; first | rfl | (exfalso; omega)
        · rfl
      · refine pw_iload_n hX rfl dX2_mayBeHanded_34 (q := 35) rfl ?_
        refine pw_ifN_eq hX (by first | omega) (tgt := 42) dX2_mayBeHanded_35 (q := 38) rfl (by decide) (fun h_35 => ?_) (fun h_35 => ?_)
        · refine pw_iconst hX (k := 0) rfl (by decide) dX2_mayBeHanded_42 (q := 43) rfl ?_
          refine pw_ireturn hX dX2_mayBeHanded_43 ⟨_, rfl, by first | exact bI_nar _ | decide | rfl⟩ ⟨congrArg (fun z => some (Value.int z)) ?_, ?_⟩
          · rw [kMay, if_neg (by omega), if_pos hk]; first | rfl | (exfalso; omega)
          · rfl
        · refine pw_iconst hX (k := 1) rfl (by decide) dX2_mayBeHanded_38 (q := 39) rfl ?_
          refine pw_goto hX (tgt := 43) dX2_mayBeHanded_39 (by decide) ?_
          refine pw_ireturn hX dX2_mayBeHanded_43 ⟨_, rfl, by first | exact bI_nar _ | decide | rfl⟩ ⟨congrArg (fun z => some (Value.int z)) ?_, ?_⟩
          · rw [kMay, if_neg (by omega), if_pos hk]; first | rfl | (exfalso; omega)
          · rfl
  · skip
    refine pw_iload_n hX rfl dX2_mayBeHanded_0 (q := 1) rfl ?_
    · refine pw_lookup hX (off := 43) (tgt := 44) dX2_mayBeHanded_1 (by decide) (by rw [nI_toInt hk0]; exact (swK _).trans (by rw [if_neg hk.1, if_neg hk.2])) (by decide) ?_
      refine pw_iconst hX (k := 1) rfl (by decide) dX2_mayBeHanded_44 (q := 45) rfl ?_
      refine pw_ireturn hX dX2_mayBeHanded_45 ⟨_, rfl, by first | exact bI_nar _ | decide | rfl⟩ ⟨congrArg (fun z => some (Value.int z)) ?_, ?_⟩
      · rw [kMay, if_neg hk.1, if_neg hk.2]; rfl
      · rfl
  · skip
    refine pw_iload_n hX rfl dX2_mayBeHanded_0 (q := 1) rfl ?_
    · refine pw_lookup hX (off := 27) (tgt := 28) dX2_mayBeHanded_1 (by decide) (by rw [nI_toInt hk0]; exact (swK _).trans (if_pos hk)) (by decide) ?_
      refine pw_iload_n hX rfl dX2_mayBeHanded_28 (q := 29) rfl ?_
      refine pw_ireturn hX dX2_mayBeHanded_29 ⟨_, rfl, by first | exact bI_nar _ | decide | rfl⟩ ⟨congrArg (fun z => some (Value.int z)) ?_, ?_⟩
      · rw [kMay, if_pos hk]; rfl
      · rfl
  · skip
    refine pw_iload_n hX rfl dX2_mayBeHanded_0 (q := 1) rfl ?_
    · refine pw_lookup hX (off := 29) (tgt := 30) dX2_mayBeHanded_1 (by decide) (by rw [nI_toInt hk0]; exact (swK _).trans (by rw [if_neg (by omega), if_pos hk])) (by decide) ?_
      refine pw_iload_n hX rfl dX2_mayBeHanded_30 (q := 31) rfl ?_
      refine pw_ifN_eq hX (by first | omega) (tgt := 42) dX2_mayBeHanded_31 (q := 34) rfl (by decide) (fun h_31 => ?_) (fun h_31 => ?_)
      · refine pw_iconst hX (k := 0) rfl (by decide) dX2_mayBeHanded_42 (q := 43) rfl ?_
        refine pw_ireturn hX dX2_mayBeHanded_43 ⟨_, rfl, by first | exact bI_nar _ | decide | rfl⟩ ⟨congrArg (fun z => some (Value.int z)) ?_, ?_⟩
        · rw [kMay, if_neg (by omega), if_pos hk]; first | rfl | (exfalso; omega)
        · rfl
      · refine pw_iload_n hX rfl dX2_mayBeHanded_34 (q := 35) rfl ?_
        refine pw_ifN_eq hX (by first | omega) (tgt := 42) dX2_mayBeHanded_35 (q := 38) rfl (by decide) (fun h_35 => ?_) (fun h_35 => ?_)
        · refine pw_iconst hX (k := 0) rfl (by decide) dX2_mayBeHanded_42 (q := 43) rfl ?_
          refine pw_ireturn hX dX2_mayBeHanded_43 ⟨_, rfl, by first | exact bI_nar _ | decide | rfl⟩ ⟨congrArg (fun z => some (Value.int z)) ?_, ?_⟩
          · rw [kMay, if_neg (by omega), if_pos hk]; first | rfl | (exfalso; omega)
          · rfl
        · refine pw_iconst hX (k := 1) rfl (by decide) dX2_mayBeHanded_38 (q := 39) rfl ?_
          refine pw_goto hX (tgt := 43) dX2_mayBeHanded_39 (by decide) ?_
          refine pw_ireturn hX dX2_mayBeHanded_43 ⟨_, rfl, by first | exact bI_nar _ | decide | rfl⟩ ⟨congrArg (fun z => some (Value.int z)) ?_, ?_⟩
          · rw [kMay, if_neg (by omega), if_pos hk]; first | rfl | (exfalso; omega)
          · rfl
  · skip
    refine pw_iload_n hX rfl dX2_mayBeHanded_0 (q := 1) rfl ?_
    · refine pw_lookup hX (off := 43) (tgt := 44) dX2_mayBeHanded_1 (by decide) (by rw [nI_toInt hk0]; exact (swK _).trans (by rw [if_neg hk.1, if_neg hk.2])) (by decide) ?_
      refine pw_iconst hX (k := 1) rfl (by decide) dX2_mayBeHanded_44 (q := 45) rfl ?_
      refine pw_ireturn hX dX2_mayBeHanded_45 ⟨_, rfl, by first | exact bI_nar _ | decide | rfl⟩ ⟨congrArg (fun z => some (Value.int z)) ?_, ?_⟩
      · rw [kMay, if_neg hk.1, if_neg hk.2]; rfl
      · rfl
  · skip
    refine pw_iload_n hX rfl dX2_mayBeHanded_0 (q := 1) rfl ?_
    · refine pw_lookup hX (off := 27) (tgt := 28) dX2_mayBeHanded_1 (by decide) (by rw [nI_toInt hk0]; exact (swK _).trans (if_pos hk)) (by decide) ?_
      refine pw_iload_n hX rfl dX2_mayBeHanded_28 (q := 29) rfl ?_
      refine pw_ireturn hX dX2_mayBeHanded_29 ⟨_, rfl, by first | exact bI_nar _ | decide | rfl⟩ ⟨congrArg (fun z => some (Value.int z)) ?_, ?_⟩
      · rw [kMay, if_pos hk]; rfl
      · rfl
  · skip
    refine pw_iload_n hX rfl dX2_mayBeHanded_0 (q := 1) rfl ?_
    · refine pw_lookup hX (off := 29) (tgt := 30) dX2_mayBeHanded_1 (by decide) (by rw [nI_toInt hk0]; exact (swK _).trans (by rw [if_neg (by omega), if_pos hk])) (by decide) ?_
      refine pw_iload_n hX rfl dX2_mayBeHanded_30 (q := 31) rfl ?_
      refine pw_ifN_eq hX (by first | omega) (tgt := 42) dX2_mayBeHanded_31 (q := 34) rfl (by decide) (fun h_31 => ?_) (fun h_31 => ?_)
      · refine pw_iconst hX (k := 0) rfl (by decide) dX2_mayBeHanded_42 (q := 43) rfl ?_
        refine pw_ireturn hX dX2_mayBeHanded_43 ⟨_, rfl, by first | exact bI_nar _ | decide | rfl⟩ ⟨congrArg (fun z => some (Value.int z)) ?_, ?_⟩
        · rw [kMay, if_neg (by omega), if_pos hk]; first | rfl | (exfalso; omega)
        · rfl
      · refine pw_iload_n hX rfl dX2_mayBeHanded_34 (q := 35) rfl ?_
        refine pw_ifN_eq hX (by first | omega) (tgt := 42) dX2_mayBeHanded_35 (q := 38) rfl (by decide) (fun h_35 => ?_) (fun h_35 => ?_)
        · refine pw_iconst hX (k := 0) rfl (by decide) dX2_mayBeHanded_42 (q := 43) rfl ?_
          refine pw_ireturn hX dX2_mayBeHanded_43 ⟨_, rfl, by first | exact bI_nar _ | decide | rfl⟩ ⟨congrArg (fun z => some (Value.int z)) ?_, ?_⟩
          · rw [kMay, if_neg (by omega), if_pos hk]; first | rfl | (exfalso; omega)
          · rfl
        · refine pw_iconst hX (k := 1) rfl (by decide) dX2_mayBeHanded_38 (q := 39) rfl ?_
          refine pw_goto hX (tgt := 43) dX2_mayBeHanded_39 (by decide) ?_
          refine pw_ireturn hX dX2_mayBeHanded_43 ⟨_, rfl, by first | exact bI_nar _ | decide | rfl⟩ ⟨congrArg (fun z => some (Value.int z)) ?_, ?_⟩
          · rw [kMay, if_neg (by omega), if_pos hk]; first | rfl | (exfalso; omega)
          · rfl
  · skip
    refine pw_iload_n hX rfl dX2_mayBeHanded_0 (q := 1) rfl ?_
    · refine pw_lookup hX (off := 43) (tgt := 44) dX2_mayBeHanded_1 (by decide) (by rw [nI_toInt hk0]; exact (swK _).trans (by rw [if_neg hk.1, if_neg hk.2])) (by decide) ?_
      refine pw_iconst hX (k := 1) rfl (by decide) dX2_mayBeHanded_44 (q := 45) rfl ?_
      refine pw_ireturn hX dX2_mayBeHanded_45 ⟨_, rfl, by first | exact bI_nar _ | decide | rfl⟩ ⟨congrArg (fun z => some (Value.int z)) ?_, ?_⟩
      · rw [kMay, if_neg hk.1, if_neg hk.2]; rfl
      · rfl
abbrev rm_X2_giver : Room := { frames := 1, cells := 0, slots := 0, locals := 22 }
set_option maxHeartbeats 800000 in
set_option maxRecDepth 20000 in
theorem c_X2_giver {l : Launch} {g : Geo} {w : WD} {V : Nat → Nat → Nat} {o : Nat} {a b t : Nat} (ho : o < 7) (hV : bV V) (ha : a < 7) (hb : b < 7) (ht : t < 12) : CtI l g yX2_giver cX2_giver 9 (some .int) rm_X2_giver [.ref (g_ad g o 0), .int (nI a), .int (nI b), .int (nI t)] (wO w o V) (bv (kGv V a b t)) (wO w o V) := by
  refine ct_of mi_X2_giver.2.2.2.2.2 ⟨rfl, rfl⟩ (List.forall_mem_cons.mpr ⟨rfl, List.forall_mem_cons.mpr ⟨rfl, List.forall_mem_cons.mpr ⟨rfl, List.forall_mem_cons.mpr ⟨rfl, fun _ h => absurd h List.not_mem_nil⟩⟩⟩⟩) (Nat.le_of_ble_eq_true rfl) (fun P hX => ?_)
  replace hX : Gd l g RX2 cX2_giver rm_X2_giver 9 (some .int) _ _ P := hX
  show P (wO w o V) 0 [some (.ref (g_ad g o 0)), some (.int (nI a)), some (.int (nI b)), some (.int (nI t)), none, none, none, none, none] []
  refine pw_aload_n hX rfl dX2_giver_0 (q := 1) rfl ?_
  refine pw_getVF hX ho 8 (by decide) fl_X2_37 rfl dX2_giver_1 (q := 4) rfl ?_
  refine pw_iload_n hX rfl dX2_giver_4 (q := 5) rfl ?_
  refine pw_iload_n hX rfl dX2_giver_5 (q := 6) rfl ?_
  refine pw_cnI2 hX dX2_giver_6 (q := 9) rfl mi_X3_place mn_X2_88 ⟨rfl, rfl, by decide, by decide⟩ rfl (Nat.le_of_ble_eq_true rfl) (c_X3_place) ?_
  refine pw_ialdVF hX ho 5 (by decide) (show _ < 84 by omega) dX2_giver_9 (q := 10) rfl ?_
  refine pw_istore hX (by decide) dX2_giver_10 (q := 12) rfl ?_
  refine pw_aload_n hX rfl dX2_giver_12 (q := 13) rfl ?_
  refine pw_getVF hX ho 8 (by decide) fl_X2_37 rfl dX2_giver_13 (q := 16) rfl ?_
  refine pw_iload_n hX rfl dX2_giver_16 (q := 17) rfl ?_
  refine pw_iload_n hX rfl dX2_giver_17 (q := 18) rfl ?_
  refine pw_cnI2 hX dX2_giver_18 (q := 21) rfl mi_X3_place mn_X2_88 ⟨rfl, rfl, by decide, by decide⟩ rfl (Nat.le_of_ble_eq_true rfl) (c_X3_place) ?_
  refine pw_ialdVF hX ho 5 (by decide) (show _ < 84 by omega) dX2_giver_21 (q := 22) rfl ?_
  refine pw_istore hX (by decide) dX2_giver_22 (q := 24) rfl ?_
  refine pw_iload hX rfl dX2_giver_24 (q := 26) rfl ?_
  refine pw_iload hX rfl dX2_giver_26 (q := 28) rfl ?_
  refine pw_icmpN_ne hX (by first | omega | (have h9 := bV84 hV (show 5 ≤ 5 ∧ 5 ≤ 10 by decide) (show a * 12 + t < 84 by omega); omega) | (have h9 := bV84 hV (show 5 ≤ 5 ∧ 5 ≤ 10 by decide) (show b * 12 + t < 84 by omega); omega) | first | omega | exact bV_0 hV | exact bV7 hV (by decide) (by omega) | exact bV84 hV (by decide) (by omega) | exact bV12 hV (by omega) | exact bV_1 hV | exact bV_2 hV) (by first | omega | (have h9 := bV84 hV (show 5 ≤ 5 ∧ 5 ≤ 10 by decide) (show a * 12 + t < 84 by omega); omega) | (have h9 := bV84 hV (show 5 ≤ 5 ∧ 5 ≤ 10 by decide) (show b * 12 + t < 84 by omega); omega) | first | omega | exact bV_0 hV | exact bV7 hV (by decide) (by omega) | exact bV84 hV (by decide) (by omega) | exact bV12 hV (by omega) | exact bV_1 hV | exact bV_2 hV) (tgt := 33) dX2_giver_28 (q := 31) rfl (by decide) (fun h_28 => ?_) (fun h_28 => ?_)
  · refine pw_iload hX rfl dX2_giver_33 (q := 35) rfl ?_
    refine pw_iload hX rfl dX2_giver_35 (q := 37) rfl ?_
    refine pw_icmpN_le hX (by first | omega | (have h9 := bV84 hV (show 5 ≤ 5 ∧ 5 ≤ 10 by decide) (show a * 12 + t < 84 by omega); omega) | (have h9 := bV84 hV (show 5 ≤ 5 ∧ 5 ≤ 10 by decide) (show b * 12 + t < 84 by omega); omega) | first | omega | exact bV_0 hV | exact bV7 hV (by decide) (by omega) | exact bV84 hV (by decide) (by omega) | exact bV12 hV (by omega) | exact bV_1 hV | exact bV_2 hV) (by first | omega | (have h9 := bV84 hV (show 5 ≤ 5 ∧ 5 ≤ 10 by decide) (show a * 12 + t < 84 by omega); omega) | (have h9 := bV84 hV (show 5 ≤ 5 ∧ 5 ≤ 10 by decide) (show b * 12 + t < 84 by omega); omega) | first | omega | exact bV_0 hV | exact bV7 hV (by decide) (by omega) | exact bV84 hV (by decide) (by omega) | exact bV12 hV (by omega) | exact bV_1 hV | exact bV_2 hV) (tgt := 44) dX2_giver_37 (q := 40) rfl (by decide) (fun h_37 => ?_) (fun h_37 => ?_)
    · refine pw_iload_n hX rfl dX2_giver_44 (q := 45) rfl ?_
      refine pw_istore hX (by decide) dX2_giver_45 (q := 47) rfl ?_
      refine pw_iload hX rfl dX2_giver_47 (q := 49) rfl ?_
      refine pw_iload hX rfl dX2_giver_49 (q := 51) rfl ?_
      refine pw_icmpN_le hX (by first | omega | (have h9 := bV84 hV (show 5 ≤ 5 ∧ 5 ≤ 10 by decide) (show a * 12 + t < 84 by omega); omega) | (have h9 := bV84 hV (show 5 ≤ 5 ∧ 5 ≤ 10 by decide) (show b * 12 + t < 84 by omega); omega) | first | omega | exact bV_0 hV | exact bV7 hV (by decide) (by omega) | exact bV84 hV (by decide) (by omega) | exact bV12 hV (by omega) | exact bV_1 hV | exact bV_2 hV) (by first | omega | (have h9 := bV84 hV (show 5 ≤ 5 ∧ 5 ≤ 10 by decide) (show a * 12 + t < 84 by omega); omega) | (have h9 := bV84 hV (show 5 ≤ 5 ∧ 5 ≤ 10 by decide) (show b * 12 + t < 84 by omega); omega) | first | omega | exact bV_0 hV | exact bV7 hV (by decide) (by omega) | exact bV84 hV (by decide) (by omega) | exact bV12 hV (by omega) | exact bV_1 hV | exact bV_2 hV) (tgt := 58) dX2_giver_51 (q := 54) rfl (by decide) (fun h_51 => ?_) (fun h_51 => ?_)
      · refine pw_iload_n hX rfl dX2_giver_58 (q := 59) rfl ?_
        refine pw_istore hX (by decide) dX2_giver_59 (q := 61) rfl ?_
        refine pw_iload hX rfl dX2_giver_61 (q := 63) rfl ?_
        refine pw_iload_n hX rfl dX2_giver_63 (q := 64) rfl ?_
        refine pw_cnI2 hX dX2_giver_64 (q := 67) rfl mi_X3_place mn_X2_88 ⟨rfl, rfl, by decide, by decide⟩ rfl (Nat.le_of_ble_eq_true rfl) (c_X3_place) ?_
        refine pw_istore hX (by decide) dX2_giver_67 (q := 69) rfl ?_
        refine pw_aload_n hX rfl dX2_giver_69 (q := 70) rfl ?_
        refine pw_getVF hX ho 9 (by decide) fl_X2_40 rfl dX2_giver_70 (q := 73) rfl ?_
        refine pw_iload hX rfl dX2_giver_73 (q := 75) rfl ?_
        refine pw_ialdVF hX ho 6 (by decide) (show _ < 84 by omega) dX2_giver_75 (q := 76) rfl ?_
        refine pw_aload_n hX rfl dX2_giver_76 (q := 77) rfl ?_
        refine pw_iload hX rfl dX2_giver_77 (q := 79) rfl ?_
        refine pw_cvI1 hX dX2_giver_79 (q := 82) rfl mi_X2_author ml_X2_144 (rcV ho) ⟨rfl, rfl, by decide, by decide⟩ rfl (Nat.le_of_ble_eq_true rfl) (c_X2_author ho hV (by omega)) ?_
        refine pw_iload hX rfl dX2_giver_82 (q := 84) rfl ?_
        refine pw_icmpN_ne hX (by first | omega | (have h9 := bV84 hV (show 5 ≤ 5 ∧ 5 ≤ 10 by decide) (show a * 12 + t < 84 by omega); omega) | (have h9 := bV84 hV (show 5 ≤ 5 ∧ 5 ≤ 10 by decide) (show b * 12 + t < 84 by omega); omega) | first | omega | exact bV_0 hV | exact bV7 hV (by decide) (by omega) | exact bV84 hV (by decide) (by omega) | exact bV12 hV (by omega) | exact bV_1 hV | exact bV_2 hV) (by first | omega | (have h9 := bV84 hV (show 5 ≤ 5 ∧ 5 ≤ 10 by decide) (show a * 12 + t < 84 by omega); omega) | (have h9 := bV84 hV (show 5 ≤ 5 ∧ 5 ≤ 10 by decide) (show b * 12 + t < 84 by omega); omega) | first | omega | exact bV_0 hV | exact bV7 hV (by decide) (by omega) | exact bV84 hV (by decide) (by omega) | exact bV12 hV (by omega) | exact bV_1 hV | exact bV_2 hV) (tgt := 91) dX2_giver_84 (q := 87) rfl (by decide) (fun h_84 => ?_) (fun h_84 => ?_)
        · refine pw_iconst hX (k := 0) rfl (by decide) dX2_giver_91 (q := 92) rfl ?_
          refine pw_iload hX rfl dX2_giver_92 (q := 94) rfl ?_
          refine pw_iload hX rfl dX2_giver_94 (q := 96) rfl ?_
          refine pw_icmpN_le hX (by first | omega | (have h9 := bV84 hV (show 5 ≤ 5 ∧ 5 ≤ 10 by decide) (show a * 12 + t < 84 by omega); omega) | (have h9 := bV84 hV (show 5 ≤ 5 ∧ 5 ≤ 10 by decide) (show b * 12 + t < 84 by omega); omega) | first | omega | exact bV_0 hV | exact bV7 hV (by decide) (by omega) | exact bV84 hV (by decide) (by omega) | exact bV12 hV (by omega) | exact bV_1 hV | exact bV_2 hV) (by first | omega | (have h9 := bV84 hV (show 5 ≤ 5 ∧ 5 ≤ 10 by decide) (show a * 12 + t < 84 by omega); omega) | (have h9 := bV84 hV (show 5 ≤ 5 ∧ 5 ≤ 10 by decide) (show b * 12 + t < 84 by omega); omega) | first | omega | exact bV_0 hV | exact bV7 hV (by decide) (by omega) | exact bV84 hV (by decide) (by omega) | exact bV12 hV (by omega) | exact bV_1 hV | exact bV_2 hV) (tgt := 103) dX2_giver_96 (q := 99) rfl (by decide) (fun h_96 => ?_) (fun h_96 => ?_)
          · refine pw_iconst hX (k := 0) rfl (by decide) dX2_giver_103 (q := 104) rfl ?_
            refine pw_csI3 hX dX2_giver_104 (q := 107) rfl mi_X2_mayBeHanded ml_X2_147 ⟨rfl, rfl, by decide, by decide⟩ rfl (Nat.le_of_ble_eq_true rfl) (c_X2_mayBeHanded (by exact bV84 hV (by decide) (by omega)) (by decide) (by decide)) ?_
            refine pw_ifB_eq hX (tgt := 115) dX2_giver_107 (q := 110) rfl (by decide) (fun h_107 => ?_) (fun h_107 => ?_)
            · refine pw_iconstm hX dX2_giver_115 (q := 116) rfl ?_
              refine pw_ireturn hX dX2_giver_116 ⟨_, rfl, rfl⟩ ⟨congrArg (fun z => some (Value.int z)) ?_, ?_⟩
              · rw [kGv, if_neg h_28]; first | (exfalso; omega) | (have e := kHM (V := V) (t := t) (f := a) (p := b) (x := 0) (y := 0) (by omega) (by omega); rw [if_pos (by omega), e]; first | (rw [if_pos h_107]; rfl) | (rw [if_neg (by rw [h_107]; decide)]; rfl)) | (have e := kHM (V := V) (t := t) (f := a) (p := b) (x := 0) (y := 1) (by omega) (by omega); rw [if_pos (by omega), e]; first | (rw [if_pos h_107]; rfl) | (rw [if_neg (by rw [h_107]; decide)]; rfl)) | (have e := kHM (V := V) (t := t) (f := a) (p := b) (x := 1) (y := 0) (by omega) (by omega); rw [if_pos (by omega), e]; first | (rw [if_pos h_107]; rfl) | (rw [if_neg (by rw [h_107]; decide)]; rfl)) | (have e := kHM (V := V) (t := t) (f := a) (p := b) (x := 1) (y := 1) (by omega) (by omega); rw [if_pos (by omega), e]; first | (rw [if_pos h_107]; rfl) | (rw [if_neg (by rw [h_107]; decide)]; rfl)) | (have e := kHM (V := V) (t := t) (f := b) (p := a) (x := 0) (y := 0) (by omega) (by omega); rw [if_neg (by omega), e]; first | (rw [if_pos h_107]; rfl) | (rw [if_neg (by rw [h_107]; decide)]; rfl)) | (have e := kHM (V := V) (t := t) (f := b) (p := a) (x := 0) (y := 1) (by omega) (by omega); rw [if_neg (by omega), e]; first | (rw [if_pos h_107]; rfl) | (rw [if_neg (by rw [h_107]; decide)]; rfl)) | (have e := kHM (V := V) (t := t) (f := b) (p := a) (x := 1) (y := 0) (by omega) (by omega); rw [if_neg (by omega), e]; first | (rw [if_pos h_107]; rfl) | (rw [if_neg (by rw [h_107]; decide)]; rfl)) | (have e := kHM (V := V) (t := t) (f := b) (p := a) (x := 1) (y := 1) (by omega) (by omega); rw [if_neg (by omega), e]; first | (rw [if_pos h_107]; rfl) | (rw [if_neg (by rw [h_107]; decide)]; rfl))
              · rfl
            · refine pw_iload hX rfl dX2_giver_110 (q := 112) rfl ?_
              refine pw_goto hX (tgt := 116) dX2_giver_112 (by decide) ?_
              refine pw_ireturn hX dX2_giver_116 ⟨_, rfl, rfl⟩ ⟨congrArg (fun z => some (Value.int z)) ?_, ?_⟩
              · rw [kGv, if_neg h_28]; first | (exfalso; omega) | (have e := kHM (V := V) (t := t) (f := a) (p := b) (x := 0) (y := 0) (by omega) (by omega); rw [if_pos (by omega), e]; first | (rw [if_pos h_107]; rfl) | (rw [if_neg (by rw [h_107]; decide)]; rfl)) | (have e := kHM (V := V) (t := t) (f := a) (p := b) (x := 0) (y := 1) (by omega) (by omega); rw [if_pos (by omega), e]; first | (rw [if_pos h_107]; rfl) | (rw [if_neg (by rw [h_107]; decide)]; rfl)) | (have e := kHM (V := V) (t := t) (f := a) (p := b) (x := 1) (y := 0) (by omega) (by omega); rw [if_pos (by omega), e]; first | (rw [if_pos h_107]; rfl) | (rw [if_neg (by rw [h_107]; decide)]; rfl)) | (have e := kHM (V := V) (t := t) (f := a) (p := b) (x := 1) (y := 1) (by omega) (by omega); rw [if_pos (by omega), e]; first | (rw [if_pos h_107]; rfl) | (rw [if_neg (by rw [h_107]; decide)]; rfl)) | (have e := kHM (V := V) (t := t) (f := b) (p := a) (x := 0) (y := 0) (by omega) (by omega); rw [if_neg (by omega), e]; first | (rw [if_pos h_107]; rfl) | (rw [if_neg (by rw [h_107]; decide)]; rfl)) | (have e := kHM (V := V) (t := t) (f := b) (p := a) (x := 0) (y := 1) (by omega) (by omega); rw [if_neg (by omega), e]; first | (rw [if_pos h_107]; rfl) | (rw [if_neg (by rw [h_107]; decide)]; rfl)) | (have e := kHM (V := V) (t := t) (f := b) (p := a) (x := 1) (y := 0) (by omega) (by omega); rw [if_neg (by omega), e]; first | (rw [if_pos h_107]; rfl) | (rw [if_neg (by rw [h_107]; decide)]; rfl)) | (have e := kHM (V := V) (t := t) (f := b) (p := a) (x := 1) (y := 1) (by omega) (by omega); rw [if_neg (by omega), e]; first | (rw [if_pos h_107]; rfl) | (rw [if_neg (by rw [h_107]; decide)]; rfl))
              · rfl
          · refine pw_iconst hX (k := 1) rfl (by decide) dX2_giver_99 (q := 100) rfl ?_
            refine pw_goto hX (tgt := 104) dX2_giver_100 (by decide) ?_
            refine pw_csI3 hX dX2_giver_104 (q := 107) rfl mi_X2_mayBeHanded ml_X2_147 ⟨rfl, rfl, by decide, by decide⟩ rfl (Nat.le_of_ble_eq_true rfl) (c_X2_mayBeHanded (by exact bV84 hV (by decide) (by omega)) (by decide) (by decide)) ?_
            refine pw_ifB_eq hX (tgt := 115) dX2_giver_107 (q := 110) rfl (by decide) (fun h_107 => ?_) (fun h_107 => ?_)
            · refine pw_iconstm hX dX2_giver_115 (q := 116) rfl ?_
              refine pw_ireturn hX dX2_giver_116 ⟨_, rfl, rfl⟩ ⟨congrArg (fun z => some (Value.int z)) ?_, ?_⟩
              · rw [kGv, if_neg h_28]; first | (exfalso; omega) | (have e := kHM (V := V) (t := t) (f := a) (p := b) (x := 0) (y := 0) (by omega) (by omega); rw [if_pos (by omega), e]; first | (rw [if_pos h_107]; rfl) | (rw [if_neg (by rw [h_107]; decide)]; rfl)) | (have e := kHM (V := V) (t := t) (f := a) (p := b) (x := 0) (y := 1) (by omega) (by omega); rw [if_pos (by omega), e]; first | (rw [if_pos h_107]; rfl) | (rw [if_neg (by rw [h_107]; decide)]; rfl)) | (have e := kHM (V := V) (t := t) (f := a) (p := b) (x := 1) (y := 0) (by omega) (by omega); rw [if_pos (by omega), e]; first | (rw [if_pos h_107]; rfl) | (rw [if_neg (by rw [h_107]; decide)]; rfl)) | (have e := kHM (V := V) (t := t) (f := a) (p := b) (x := 1) (y := 1) (by omega) (by omega); rw [if_pos (by omega), e]; first | (rw [if_pos h_107]; rfl) | (rw [if_neg (by rw [h_107]; decide)]; rfl)) | (have e := kHM (V := V) (t := t) (f := b) (p := a) (x := 0) (y := 0) (by omega) (by omega); rw [if_neg (by omega), e]; first | (rw [if_pos h_107]; rfl) | (rw [if_neg (by rw [h_107]; decide)]; rfl)) | (have e := kHM (V := V) (t := t) (f := b) (p := a) (x := 0) (y := 1) (by omega) (by omega); rw [if_neg (by omega), e]; first | (rw [if_pos h_107]; rfl) | (rw [if_neg (by rw [h_107]; decide)]; rfl)) | (have e := kHM (V := V) (t := t) (f := b) (p := a) (x := 1) (y := 0) (by omega) (by omega); rw [if_neg (by omega), e]; first | (rw [if_pos h_107]; rfl) | (rw [if_neg (by rw [h_107]; decide)]; rfl)) | (have e := kHM (V := V) (t := t) (f := b) (p := a) (x := 1) (y := 1) (by omega) (by omega); rw [if_neg (by omega), e]; first | (rw [if_pos h_107]; rfl) | (rw [if_neg (by rw [h_107]; decide)]; rfl))
              · rfl
            · refine pw_iload hX rfl dX2_giver_110 (q := 112) rfl ?_
              refine pw_goto hX (tgt := 116) dX2_giver_112 (by decide) ?_
              refine pw_ireturn hX dX2_giver_116 ⟨_, rfl, rfl⟩ ⟨congrArg (fun z => some (Value.int z)) ?_, ?_⟩
              · rw [kGv, if_neg h_28]; first | (exfalso; omega) | (have e := kHM (V := V) (t := t) (f := a) (p := b) (x := 0) (y := 0) (by omega) (by omega); rw [if_pos (by omega), e]; first | (rw [if_pos h_107]; rfl) | (rw [if_neg (by rw [h_107]; decide)]; rfl)) | (have e := kHM (V := V) (t := t) (f := a) (p := b) (x := 0) (y := 1) (by omega) (by omega); rw [if_pos (by omega), e]; first | (rw [if_pos h_107]; rfl) | (rw [if_neg (by rw [h_107]; decide)]; rfl)) | (have e := kHM (V := V) (t := t) (f := a) (p := b) (x := 1) (y := 0) (by omega) (by omega); rw [if_pos (by omega), e]; first | (rw [if_pos h_107]; rfl) | (rw [if_neg (by rw [h_107]; decide)]; rfl)) | (have e := kHM (V := V) (t := t) (f := a) (p := b) (x := 1) (y := 1) (by omega) (by omega); rw [if_pos (by omega), e]; first | (rw [if_pos h_107]; rfl) | (rw [if_neg (by rw [h_107]; decide)]; rfl)) | (have e := kHM (V := V) (t := t) (f := b) (p := a) (x := 0) (y := 0) (by omega) (by omega); rw [if_neg (by omega), e]; first | (rw [if_pos h_107]; rfl) | (rw [if_neg (by rw [h_107]; decide)]; rfl)) | (have e := kHM (V := V) (t := t) (f := b) (p := a) (x := 0) (y := 1) (by omega) (by omega); rw [if_neg (by omega), e]; first | (rw [if_pos h_107]; rfl) | (rw [if_neg (by rw [h_107]; decide)]; rfl)) | (have e := kHM (V := V) (t := t) (f := b) (p := a) (x := 1) (y := 0) (by omega) (by omega); rw [if_neg (by omega), e]; first | (rw [if_pos h_107]; rfl) | (rw [if_neg (by rw [h_107]; decide)]; rfl)) | (have e := kHM (V := V) (t := t) (f := b) (p := a) (x := 1) (y := 1) (by omega) (by omega); rw [if_neg (by omega), e]; first | (rw [if_pos h_107]; rfl) | (rw [if_neg (by rw [h_107]; decide)]; rfl))
              · rfl
        · refine pw_iconst hX (k := 1) rfl (by decide) dX2_giver_87 (q := 88) rfl ?_
          refine pw_goto hX (tgt := 92) dX2_giver_88 (by decide) ?_
          refine pw_iload hX rfl dX2_giver_92 (q := 94) rfl ?_
          refine pw_iload hX rfl dX2_giver_94 (q := 96) rfl ?_
          refine pw_icmpN_le hX (by first | omega | (have h9 := bV84 hV (show 5 ≤ 5 ∧ 5 ≤ 10 by decide) (show a * 12 + t < 84 by omega); omega) | (have h9 := bV84 hV (show 5 ≤ 5 ∧ 5 ≤ 10 by decide) (show b * 12 + t < 84 by omega); omega) | first | omega | exact bV_0 hV | exact bV7 hV (by decide) (by omega) | exact bV84 hV (by decide) (by omega) | exact bV12 hV (by omega) | exact bV_1 hV | exact bV_2 hV) (by first | omega | (have h9 := bV84 hV (show 5 ≤ 5 ∧ 5 ≤ 10 by decide) (show a * 12 + t < 84 by omega); omega) | (have h9 := bV84 hV (show 5 ≤ 5 ∧ 5 ≤ 10 by decide) (show b * 12 + t < 84 by omega); omega) | first | omega | exact bV_0 hV | exact bV7 hV (by decide) (by omega) | exact bV84 hV (by decide) (by omega) | exact bV12 hV (by omega) | exact bV_1 hV | exact bV_2 hV) (tgt := 103) dX2_giver_96 (q := 99) rfl (by decide) (fun h_96 => ?_) (fun h_96 => ?_)
          · refine pw_iconst hX (k := 0) rfl (by decide) dX2_giver_103 (q := 104) rfl ?_
            refine pw_csI3 hX dX2_giver_104 (q := 107) rfl mi_X2_mayBeHanded ml_X2_147 ⟨rfl, rfl, by decide, by decide⟩ rfl (Nat.le_of_ble_eq_true rfl) (c_X2_mayBeHanded (by exact bV84 hV (by decide) (by omega)) (by decide) (by decide)) ?_
            refine pw_ifB_eq hX (tgt := 115) dX2_giver_107 (q := 110) rfl (by decide) (fun h_107 => ?_) (fun h_107 => ?_)
            · refine pw_iconstm hX dX2_giver_115 (q := 116) rfl ?_
              refine pw_ireturn hX dX2_giver_116 ⟨_, rfl, rfl⟩ ⟨congrArg (fun z => some (Value.int z)) ?_, ?_⟩
              · rw [kGv, if_neg h_28]; first | (exfalso; omega) | (have e := kHM (V := V) (t := t) (f := a) (p := b) (x := 0) (y := 0) (by omega) (by omega); rw [if_pos (by omega), e]; first | (rw [if_pos h_107]; rfl) | (rw [if_neg (by rw [h_107]; decide)]; rfl)) | (have e := kHM (V := V) (t := t) (f := a) (p := b) (x := 0) (y := 1) (by omega) (by omega); rw [if_pos (by omega), e]; first | (rw [if_pos h_107]; rfl) | (rw [if_neg (by rw [h_107]; decide)]; rfl)) | (have e := kHM (V := V) (t := t) (f := a) (p := b) (x := 1) (y := 0) (by omega) (by omega); rw [if_pos (by omega), e]; first | (rw [if_pos h_107]; rfl) | (rw [if_neg (by rw [h_107]; decide)]; rfl)) | (have e := kHM (V := V) (t := t) (f := a) (p := b) (x := 1) (y := 1) (by omega) (by omega); rw [if_pos (by omega), e]; first | (rw [if_pos h_107]; rfl) | (rw [if_neg (by rw [h_107]; decide)]; rfl)) | (have e := kHM (V := V) (t := t) (f := b) (p := a) (x := 0) (y := 0) (by omega) (by omega); rw [if_neg (by omega), e]; first | (rw [if_pos h_107]; rfl) | (rw [if_neg (by rw [h_107]; decide)]; rfl)) | (have e := kHM (V := V) (t := t) (f := b) (p := a) (x := 0) (y := 1) (by omega) (by omega); rw [if_neg (by omega), e]; first | (rw [if_pos h_107]; rfl) | (rw [if_neg (by rw [h_107]; decide)]; rfl)) | (have e := kHM (V := V) (t := t) (f := b) (p := a) (x := 1) (y := 0) (by omega) (by omega); rw [if_neg (by omega), e]; first | (rw [if_pos h_107]; rfl) | (rw [if_neg (by rw [h_107]; decide)]; rfl)) | (have e := kHM (V := V) (t := t) (f := b) (p := a) (x := 1) (y := 1) (by omega) (by omega); rw [if_neg (by omega), e]; first | (rw [if_pos h_107]; rfl) | (rw [if_neg (by rw [h_107]; decide)]; rfl))
              · rfl
            · refine pw_iload hX rfl dX2_giver_110 (q := 112) rfl ?_
              refine pw_goto hX (tgt := 116) dX2_giver_112 (by decide) ?_
              refine pw_ireturn hX dX2_giver_116 ⟨_, rfl, rfl⟩ ⟨congrArg (fun z => some (Value.int z)) ?_, ?_⟩
              · rw [kGv, if_neg h_28]; first | (exfalso; omega) | (have e := kHM (V := V) (t := t) (f := a) (p := b) (x := 0) (y := 0) (by omega) (by omega); rw [if_pos (by omega), e]; first | (rw [if_pos h_107]; rfl) | (rw [if_neg (by rw [h_107]; decide)]; rfl)) | (have e := kHM (V := V) (t := t) (f := a) (p := b) (x := 0) (y := 1) (by omega) (by omega); rw [if_pos (by omega), e]; first | (rw [if_pos h_107]; rfl) | (rw [if_neg (by rw [h_107]; decide)]; rfl)) | (have e := kHM (V := V) (t := t) (f := a) (p := b) (x := 1) (y := 0) (by omega) (by omega); rw [if_pos (by omega), e]; first | (rw [if_pos h_107]; rfl) | (rw [if_neg (by rw [h_107]; decide)]; rfl)) | (have e := kHM (V := V) (t := t) (f := a) (p := b) (x := 1) (y := 1) (by omega) (by omega); rw [if_pos (by omega), e]; first | (rw [if_pos h_107]; rfl) | (rw [if_neg (by rw [h_107]; decide)]; rfl)) | (have e := kHM (V := V) (t := t) (f := b) (p := a) (x := 0) (y := 0) (by omega) (by omega); rw [if_neg (by omega), e]; first | (rw [if_pos h_107]; rfl) | (rw [if_neg (by rw [h_107]; decide)]; rfl)) | (have e := kHM (V := V) (t := t) (f := b) (p := a) (x := 0) (y := 1) (by omega) (by omega); rw [if_neg (by omega), e]; first | (rw [if_pos h_107]; rfl) | (rw [if_neg (by rw [h_107]; decide)]; rfl)) | (have e := kHM (V := V) (t := t) (f := b) (p := a) (x := 1) (y := 0) (by omega) (by omega); rw [if_neg (by omega), e]; first | (rw [if_pos h_107]; rfl) | (rw [if_neg (by rw [h_107]; decide)]; rfl)) | (have e := kHM (V := V) (t := t) (f := b) (p := a) (x := 1) (y := 1) (by omega) (by omega); rw [if_neg (by omega), e]; first | (rw [if_pos h_107]; rfl) | (rw [if_neg (by rw [h_107]; decide)]; rfl))
              · rfl
          · refine pw_iconst hX (k := 1) rfl (by decide) dX2_giver_99 (q := 100) rfl ?_
            refine pw_goto hX (tgt := 104) dX2_giver_100 (by decide) ?_
            refine pw_csI3 hX dX2_giver_104 (q := 107) rfl mi_X2_mayBeHanded ml_X2_147 ⟨rfl, rfl, by decide, by decide⟩ rfl (Nat.le_of_ble_eq_true rfl) (c_X2_mayBeHanded (by exact bV84 hV (by decide) (by omega)) (by decide) (by decide)) ?_
            refine pw_ifB_eq hX (tgt := 115) dX2_giver_107 (q := 110) rfl (by decide) (fun h_107 => ?_) (fun h_107 => ?_)
            · refine pw_iconstm hX dX2_giver_115 (q := 116) rfl ?_
              refine pw_ireturn hX dX2_giver_116 ⟨_, rfl, rfl⟩ ⟨congrArg (fun z => some (Value.int z)) ?_, ?_⟩
              · rw [kGv, if_neg h_28]; first | (exfalso; omega) | (have e := kHM (V := V) (t := t) (f := a) (p := b) (x := 0) (y := 0) (by omega) (by omega); rw [if_pos (by omega), e]; first | (rw [if_pos h_107]; rfl) | (rw [if_neg (by rw [h_107]; decide)]; rfl)) | (have e := kHM (V := V) (t := t) (f := a) (p := b) (x := 0) (y := 1) (by omega) (by omega); rw [if_pos (by omega), e]; first | (rw [if_pos h_107]; rfl) | (rw [if_neg (by rw [h_107]; decide)]; rfl)) | (have e := kHM (V := V) (t := t) (f := a) (p := b) (x := 1) (y := 0) (by omega) (by omega); rw [if_pos (by omega), e]; first | (rw [if_pos h_107]; rfl) | (rw [if_neg (by rw [h_107]; decide)]; rfl)) | (have e := kHM (V := V) (t := t) (f := a) (p := b) (x := 1) (y := 1) (by omega) (by omega); rw [if_pos (by omega), e]; first | (rw [if_pos h_107]; rfl) | (rw [if_neg (by rw [h_107]; decide)]; rfl)) | (have e := kHM (V := V) (t := t) (f := b) (p := a) (x := 0) (y := 0) (by omega) (by omega); rw [if_neg (by omega), e]; first | (rw [if_pos h_107]; rfl) | (rw [if_neg (by rw [h_107]; decide)]; rfl)) | (have e := kHM (V := V) (t := t) (f := b) (p := a) (x := 0) (y := 1) (by omega) (by omega); rw [if_neg (by omega), e]; first | (rw [if_pos h_107]; rfl) | (rw [if_neg (by rw [h_107]; decide)]; rfl)) | (have e := kHM (V := V) (t := t) (f := b) (p := a) (x := 1) (y := 0) (by omega) (by omega); rw [if_neg (by omega), e]; first | (rw [if_pos h_107]; rfl) | (rw [if_neg (by rw [h_107]; decide)]; rfl)) | (have e := kHM (V := V) (t := t) (f := b) (p := a) (x := 1) (y := 1) (by omega) (by omega); rw [if_neg (by omega), e]; first | (rw [if_pos h_107]; rfl) | (rw [if_neg (by rw [h_107]; decide)]; rfl))
              · rfl
            · refine pw_iload hX rfl dX2_giver_110 (q := 112) rfl ?_
              refine pw_goto hX (tgt := 116) dX2_giver_112 (by decide) ?_
              refine pw_ireturn hX dX2_giver_116 ⟨_, rfl, rfl⟩ ⟨congrArg (fun z => some (Value.int z)) ?_, ?_⟩
              · rw [kGv, if_neg h_28]; first | (exfalso; omega) | (have e := kHM (V := V) (t := t) (f := a) (p := b) (x := 0) (y := 0) (by omega) (by omega); rw [if_pos (by omega), e]; first | (rw [if_pos h_107]; rfl) | (rw [if_neg (by rw [h_107]; decide)]; rfl)) | (have e := kHM (V := V) (t := t) (f := a) (p := b) (x := 0) (y := 1) (by omega) (by omega); rw [if_pos (by omega), e]; first | (rw [if_pos h_107]; rfl) | (rw [if_neg (by rw [h_107]; decide)]; rfl)) | (have e := kHM (V := V) (t := t) (f := a) (p := b) (x := 1) (y := 0) (by omega) (by omega); rw [if_pos (by omega), e]; first | (rw [if_pos h_107]; rfl) | (rw [if_neg (by rw [h_107]; decide)]; rfl)) | (have e := kHM (V := V) (t := t) (f := a) (p := b) (x := 1) (y := 1) (by omega) (by omega); rw [if_pos (by omega), e]; first | (rw [if_pos h_107]; rfl) | (rw [if_neg (by rw [h_107]; decide)]; rfl)) | (have e := kHM (V := V) (t := t) (f := b) (p := a) (x := 0) (y := 0) (by omega) (by omega); rw [if_neg (by omega), e]; first | (rw [if_pos h_107]; rfl) | (rw [if_neg (by rw [h_107]; decide)]; rfl)) | (have e := kHM (V := V) (t := t) (f := b) (p := a) (x := 0) (y := 1) (by omega) (by omega); rw [if_neg (by omega), e]; first | (rw [if_pos h_107]; rfl) | (rw [if_neg (by rw [h_107]; decide)]; rfl)) | (have e := kHM (V := V) (t := t) (f := b) (p := a) (x := 1) (y := 0) (by omega) (by omega); rw [if_neg (by omega), e]; first | (rw [if_pos h_107]; rfl) | (rw [if_neg (by rw [h_107]; decide)]; rfl)) | (have e := kHM (V := V) (t := t) (f := b) (p := a) (x := 1) (y := 1) (by omega) (by omega); rw [if_neg (by omega), e]; first | (rw [if_pos h_107]; rfl) | (rw [if_neg (by rw [h_107]; decide)]; rfl))
              · rfl
      · refine pw_iload_n hX rfl dX2_giver_54 (q := 55) rfl ?_
        refine pw_goto hX (tgt := 59) dX2_giver_55 (by decide) ?_
        refine pw_istore hX (by decide) dX2_giver_59 (q := 61) rfl ?_
        refine pw_iload hX rfl dX2_giver_61 (q := 63) rfl ?_
        refine pw_iload_n hX rfl dX2_giver_63 (q := 64) rfl ?_
        refine pw_cnI2 hX dX2_giver_64 (q := 67) rfl mi_X3_place mn_X2_88 ⟨rfl, rfl, by decide, by decide⟩ rfl (Nat.le_of_ble_eq_true rfl) (c_X3_place) ?_
        refine pw_istore hX (by decide) dX2_giver_67 (q := 69) rfl ?_
        refine pw_aload_n hX rfl dX2_giver_69 (q := 70) rfl ?_
        refine pw_getVF hX ho 9 (by decide) fl_X2_40 rfl dX2_giver_70 (q := 73) rfl ?_
        refine pw_iload hX rfl dX2_giver_73 (q := 75) rfl ?_
        refine pw_ialdVF hX ho 6 (by decide) (show _ < 84 by omega) dX2_giver_75 (q := 76) rfl ?_
        refine pw_aload_n hX rfl dX2_giver_76 (q := 77) rfl ?_
        refine pw_iload hX rfl dX2_giver_77 (q := 79) rfl ?_
        refine pw_cvI1 hX dX2_giver_79 (q := 82) rfl mi_X2_author ml_X2_144 (rcV ho) ⟨rfl, rfl, by decide, by decide⟩ rfl (Nat.le_of_ble_eq_true rfl) (c_X2_author ho hV (by omega)) ?_
        refine pw_iload hX rfl dX2_giver_82 (q := 84) rfl ?_
        refine pw_icmpN_ne hX (by first | omega | (have h9 := bV84 hV (show 5 ≤ 5 ∧ 5 ≤ 10 by decide) (show a * 12 + t < 84 by omega); omega) | (have h9 := bV84 hV (show 5 ≤ 5 ∧ 5 ≤ 10 by decide) (show b * 12 + t < 84 by omega); omega) | first | omega | exact bV_0 hV | exact bV7 hV (by decide) (by omega) | exact bV84 hV (by decide) (by omega) | exact bV12 hV (by omega) | exact bV_1 hV | exact bV_2 hV) (by first | omega | (have h9 := bV84 hV (show 5 ≤ 5 ∧ 5 ≤ 10 by decide) (show a * 12 + t < 84 by omega); omega) | (have h9 := bV84 hV (show 5 ≤ 5 ∧ 5 ≤ 10 by decide) (show b * 12 + t < 84 by omega); omega) | first | omega | exact bV_0 hV | exact bV7 hV (by decide) (by omega) | exact bV84 hV (by decide) (by omega) | exact bV12 hV (by omega) | exact bV_1 hV | exact bV_2 hV) (tgt := 91) dX2_giver_84 (q := 87) rfl (by decide) (fun h_84 => ?_) (fun h_84 => ?_)
        · refine pw_iconst hX (k := 0) rfl (by decide) dX2_giver_91 (q := 92) rfl ?_
          refine pw_iload hX rfl dX2_giver_92 (q := 94) rfl ?_
          refine pw_iload hX rfl dX2_giver_94 (q := 96) rfl ?_
          refine pw_icmpN_le hX (by first | omega | (have h9 := bV84 hV (show 5 ≤ 5 ∧ 5 ≤ 10 by decide) (show a * 12 + t < 84 by omega); omega) | (have h9 := bV84 hV (show 5 ≤ 5 ∧ 5 ≤ 10 by decide) (show b * 12 + t < 84 by omega); omega) | first | omega | exact bV_0 hV | exact bV7 hV (by decide) (by omega) | exact bV84 hV (by decide) (by omega) | exact bV12 hV (by omega) | exact bV_1 hV | exact bV_2 hV) (by first | omega | (have h9 := bV84 hV (show 5 ≤ 5 ∧ 5 ≤ 10 by decide) (show a * 12 + t < 84 by omega); omega) | (have h9 := bV84 hV (show 5 ≤ 5 ∧ 5 ≤ 10 by decide) (show b * 12 + t < 84 by omega); omega) | first | omega | exact bV_0 hV | exact bV7 hV (by decide) (by omega) | exact bV84 hV (by decide) (by omega) | exact bV12 hV (by omega) | exact bV_1 hV | exact bV_2 hV) (tgt := 103) dX2_giver_96 (q := 99) rfl (by decide) (fun h_96 => ?_) (fun h_96 => ?_)
          · refine pw_iconst hX (k := 0) rfl (by decide) dX2_giver_103 (q := 104) rfl ?_
            refine pw_csI3 hX dX2_giver_104 (q := 107) rfl mi_X2_mayBeHanded ml_X2_147 ⟨rfl, rfl, by decide, by decide⟩ rfl (Nat.le_of_ble_eq_true rfl) (c_X2_mayBeHanded (by exact bV84 hV (by decide) (by omega)) (by decide) (by decide)) ?_
            refine pw_ifB_eq hX (tgt := 115) dX2_giver_107 (q := 110) rfl (by decide) (fun h_107 => ?_) (fun h_107 => ?_)
            · refine pw_iconstm hX dX2_giver_115 (q := 116) rfl ?_
              refine pw_ireturn hX dX2_giver_116 ⟨_, rfl, rfl⟩ ⟨congrArg (fun z => some (Value.int z)) ?_, ?_⟩
              · rw [kGv, if_neg h_28]; first | (exfalso; omega) | (have e := kHM (V := V) (t := t) (f := a) (p := b) (x := 0) (y := 0) (by omega) (by omega); rw [if_pos (by omega), e]; first | (rw [if_pos h_107]; rfl) | (rw [if_neg (by rw [h_107]; decide)]; rfl)) | (have e := kHM (V := V) (t := t) (f := a) (p := b) (x := 0) (y := 1) (by omega) (by omega); rw [if_pos (by omega), e]; first | (rw [if_pos h_107]; rfl) | (rw [if_neg (by rw [h_107]; decide)]; rfl)) | (have e := kHM (V := V) (t := t) (f := a) (p := b) (x := 1) (y := 0) (by omega) (by omega); rw [if_pos (by omega), e]; first | (rw [if_pos h_107]; rfl) | (rw [if_neg (by rw [h_107]; decide)]; rfl)) | (have e := kHM (V := V) (t := t) (f := a) (p := b) (x := 1) (y := 1) (by omega) (by omega); rw [if_pos (by omega), e]; first | (rw [if_pos h_107]; rfl) | (rw [if_neg (by rw [h_107]; decide)]; rfl)) | (have e := kHM (V := V) (t := t) (f := b) (p := a) (x := 0) (y := 0) (by omega) (by omega); rw [if_neg (by omega), e]; first | (rw [if_pos h_107]; rfl) | (rw [if_neg (by rw [h_107]; decide)]; rfl)) | (have e := kHM (V := V) (t := t) (f := b) (p := a) (x := 0) (y := 1) (by omega) (by omega); rw [if_neg (by omega), e]; first | (rw [if_pos h_107]; rfl) | (rw [if_neg (by rw [h_107]; decide)]; rfl)) | (have e := kHM (V := V) (t := t) (f := b) (p := a) (x := 1) (y := 0) (by omega) (by omega); rw [if_neg (by omega), e]; first | (rw [if_pos h_107]; rfl) | (rw [if_neg (by rw [h_107]; decide)]; rfl)) | (have e := kHM (V := V) (t := t) (f := b) (p := a) (x := 1) (y := 1) (by omega) (by omega); rw [if_neg (by omega), e]; first | (rw [if_pos h_107]; rfl) | (rw [if_neg (by rw [h_107]; decide)]; rfl))
              · rfl
            · refine pw_iload hX rfl dX2_giver_110 (q := 112) rfl ?_
              refine pw_goto hX (tgt := 116) dX2_giver_112 (by decide) ?_
              refine pw_ireturn hX dX2_giver_116 ⟨_, rfl, rfl⟩ ⟨congrArg (fun z => some (Value.int z)) ?_, ?_⟩
              · rw [kGv, if_neg h_28]; first | (exfalso; omega) | (have e := kHM (V := V) (t := t) (f := a) (p := b) (x := 0) (y := 0) (by omega) (by omega); rw [if_pos (by omega), e]; first | (rw [if_pos h_107]; rfl) | (rw [if_neg (by rw [h_107]; decide)]; rfl)) | (have e := kHM (V := V) (t := t) (f := a) (p := b) (x := 0) (y := 1) (by omega) (by omega); rw [if_pos (by omega), e]; first | (rw [if_pos h_107]; rfl) | (rw [if_neg (by rw [h_107]; decide)]; rfl)) | (have e := kHM (V := V) (t := t) (f := a) (p := b) (x := 1) (y := 0) (by omega) (by omega); rw [if_pos (by omega), e]; first | (rw [if_pos h_107]; rfl) | (rw [if_neg (by rw [h_107]; decide)]; rfl)) | (have e := kHM (V := V) (t := t) (f := a) (p := b) (x := 1) (y := 1) (by omega) (by omega); rw [if_pos (by omega), e]; first | (rw [if_pos h_107]; rfl) | (rw [if_neg (by rw [h_107]; decide)]; rfl)) | (have e := kHM (V := V) (t := t) (f := b) (p := a) (x := 0) (y := 0) (by omega) (by omega); rw [if_neg (by omega), e]; first | (rw [if_pos h_107]; rfl) | (rw [if_neg (by rw [h_107]; decide)]; rfl)) | (have e := kHM (V := V) (t := t) (f := b) (p := a) (x := 0) (y := 1) (by omega) (by omega); rw [if_neg (by omega), e]; first | (rw [if_pos h_107]; rfl) | (rw [if_neg (by rw [h_107]; decide)]; rfl)) | (have e := kHM (V := V) (t := t) (f := b) (p := a) (x := 1) (y := 0) (by omega) (by omega); rw [if_neg (by omega), e]; first | (rw [if_pos h_107]; rfl) | (rw [if_neg (by rw [h_107]; decide)]; rfl)) | (have e := kHM (V := V) (t := t) (f := b) (p := a) (x := 1) (y := 1) (by omega) (by omega); rw [if_neg (by omega), e]; first | (rw [if_pos h_107]; rfl) | (rw [if_neg (by rw [h_107]; decide)]; rfl))
              · rfl
          · refine pw_iconst hX (k := 1) rfl (by decide) dX2_giver_99 (q := 100) rfl ?_
            refine pw_goto hX (tgt := 104) dX2_giver_100 (by decide) ?_
            refine pw_csI3 hX dX2_giver_104 (q := 107) rfl mi_X2_mayBeHanded ml_X2_147 ⟨rfl, rfl, by decide, by decide⟩ rfl (Nat.le_of_ble_eq_true rfl) (c_X2_mayBeHanded (by exact bV84 hV (by decide) (by omega)) (by decide) (by decide)) ?_
            refine pw_ifB_eq hX (tgt := 115) dX2_giver_107 (q := 110) rfl (by decide) (fun h_107 => ?_) (fun h_107 => ?_)
            · refine pw_iconstm hX dX2_giver_115 (q := 116) rfl ?_
              refine pw_ireturn hX dX2_giver_116 ⟨_, rfl, rfl⟩ ⟨congrArg (fun z => some (Value.int z)) ?_, ?_⟩
              · rw [kGv, if_neg h_28]; first | (exfalso; omega) | (have e := kHM (V := V) (t := t) (f := a) (p := b) (x := 0) (y := 0) (by omega) (by omega); rw [if_pos (by omega), e]; first | (rw [if_pos h_107]; rfl) | (rw [if_neg (by rw [h_107]; decide)]; rfl)) | (have e := kHM (V := V) (t := t) (f := a) (p := b) (x := 0) (y := 1) (by omega) (by omega); rw [if_pos (by omega), e]; first | (rw [if_pos h_107]; rfl) | (rw [if_neg (by rw [h_107]; decide)]; rfl)) | (have e := kHM (V := V) (t := t) (f := a) (p := b) (x := 1) (y := 0) (by omega) (by omega); rw [if_pos (by omega), e]; first | (rw [if_pos h_107]; rfl) | (rw [if_neg (by rw [h_107]; decide)]; rfl)) | (have e := kHM (V := V) (t := t) (f := a) (p := b) (x := 1) (y := 1) (by omega) (by omega); rw [if_pos (by omega), e]; first | (rw [if_pos h_107]; rfl) | (rw [if_neg (by rw [h_107]; decide)]; rfl)) | (have e := kHM (V := V) (t := t) (f := b) (p := a) (x := 0) (y := 0) (by omega) (by omega); rw [if_neg (by omega), e]; first | (rw [if_pos h_107]; rfl) | (rw [if_neg (by rw [h_107]; decide)]; rfl)) | (have e := kHM (V := V) (t := t) (f := b) (p := a) (x := 0) (y := 1) (by omega) (by omega); rw [if_neg (by omega), e]; first | (rw [if_pos h_107]; rfl) | (rw [if_neg (by rw [h_107]; decide)]; rfl)) | (have e := kHM (V := V) (t := t) (f := b) (p := a) (x := 1) (y := 0) (by omega) (by omega); rw [if_neg (by omega), e]; first | (rw [if_pos h_107]; rfl) | (rw [if_neg (by rw [h_107]; decide)]; rfl)) | (have e := kHM (V := V) (t := t) (f := b) (p := a) (x := 1) (y := 1) (by omega) (by omega); rw [if_neg (by omega), e]; first | (rw [if_pos h_107]; rfl) | (rw [if_neg (by rw [h_107]; decide)]; rfl))
              · rfl
            · refine pw_iload hX rfl dX2_giver_110 (q := 112) rfl ?_
              refine pw_goto hX (tgt := 116) dX2_giver_112 (by decide) ?_
              refine pw_ireturn hX dX2_giver_116 ⟨_, rfl, rfl⟩ ⟨congrArg (fun z => some (Value.int z)) ?_, ?_⟩
              · rw [kGv, if_neg h_28]; first | (exfalso; omega) | (have e := kHM (V := V) (t := t) (f := a) (p := b) (x := 0) (y := 0) (by omega) (by omega); rw [if_pos (by omega), e]; first | (rw [if_pos h_107]; rfl) | (rw [if_neg (by rw [h_107]; decide)]; rfl)) | (have e := kHM (V := V) (t := t) (f := a) (p := b) (x := 0) (y := 1) (by omega) (by omega); rw [if_pos (by omega), e]; first | (rw [if_pos h_107]; rfl) | (rw [if_neg (by rw [h_107]; decide)]; rfl)) | (have e := kHM (V := V) (t := t) (f := a) (p := b) (x := 1) (y := 0) (by omega) (by omega); rw [if_pos (by omega), e]; first | (rw [if_pos h_107]; rfl) | (rw [if_neg (by rw [h_107]; decide)]; rfl)) | (have e := kHM (V := V) (t := t) (f := a) (p := b) (x := 1) (y := 1) (by omega) (by omega); rw [if_pos (by omega), e]; first | (rw [if_pos h_107]; rfl) | (rw [if_neg (by rw [h_107]; decide)]; rfl)) | (have e := kHM (V := V) (t := t) (f := b) (p := a) (x := 0) (y := 0) (by omega) (by omega); rw [if_neg (by omega), e]; first | (rw [if_pos h_107]; rfl) | (rw [if_neg (by rw [h_107]; decide)]; rfl)) | (have e := kHM (V := V) (t := t) (f := b) (p := a) (x := 0) (y := 1) (by omega) (by omega); rw [if_neg (by omega), e]; first | (rw [if_pos h_107]; rfl) | (rw [if_neg (by rw [h_107]; decide)]; rfl)) | (have e := kHM (V := V) (t := t) (f := b) (p := a) (x := 1) (y := 0) (by omega) (by omega); rw [if_neg (by omega), e]; first | (rw [if_pos h_107]; rfl) | (rw [if_neg (by rw [h_107]; decide)]; rfl)) | (have e := kHM (V := V) (t := t) (f := b) (p := a) (x := 1) (y := 1) (by omega) (by omega); rw [if_neg (by omega), e]; first | (rw [if_pos h_107]; rfl) | (rw [if_neg (by rw [h_107]; decide)]; rfl))
              · rfl
        · refine pw_iconst hX (k := 1) rfl (by decide) dX2_giver_87 (q := 88) rfl ?_
          refine pw_goto hX (tgt := 92) dX2_giver_88 (by decide) ?_
          refine pw_iload hX rfl dX2_giver_92 (q := 94) rfl ?_
          refine pw_iload hX rfl dX2_giver_94 (q := 96) rfl ?_
          refine pw_icmpN_le hX (by first | omega | (have h9 := bV84 hV (show 5 ≤ 5 ∧ 5 ≤ 10 by decide) (show a * 12 + t < 84 by omega); omega) | (have h9 := bV84 hV (show 5 ≤ 5 ∧ 5 ≤ 10 by decide) (show b * 12 + t < 84 by omega); omega) | first | omega | exact bV_0 hV | exact bV7 hV (by decide) (by omega) | exact bV84 hV (by decide) (by omega) | exact bV12 hV (by omega) | exact bV_1 hV | exact bV_2 hV) (by first | omega | (have h9 := bV84 hV (show 5 ≤ 5 ∧ 5 ≤ 10 by decide) (show a * 12 + t < 84 by omega); omega) | (have h9 := bV84 hV (show 5 ≤ 5 ∧ 5 ≤ 10 by decide) (show b * 12 + t < 84 by omega); omega) | first | omega | exact bV_0 hV | exact bV7 hV (by decide) (by omega) | exact bV84 hV (by decide) (by omega) | exact bV12 hV (by omega) | exact bV_1 hV | exact bV_2 hV) (tgt := 103) dX2_giver_96 (q := 99) rfl (by decide) (fun h_96 => ?_) (fun h_96 => ?_)
          · refine pw_iconst hX (k := 0) rfl (by decide) dX2_giver_103 (q := 104) rfl ?_
            refine pw_csI3 hX dX2_giver_104 (q := 107) rfl mi_X2_mayBeHanded ml_X2_147 ⟨rfl, rfl, by decide, by decide⟩ rfl (Nat.le_of_ble_eq_true rfl) (c_X2_mayBeHanded (by exact bV84 hV (by decide) (by omega)) (by decide) (by decide)) ?_
            refine pw_ifB_eq hX (tgt := 115) dX2_giver_107 (q := 110) rfl (by decide) (fun h_107 => ?_) (fun h_107 => ?_)
            · refine pw_iconstm hX dX2_giver_115 (q := 116) rfl ?_
              refine pw_ireturn hX dX2_giver_116 ⟨_, rfl, rfl⟩ ⟨congrArg (fun z => some (Value.int z)) ?_, ?_⟩
              · rw [kGv, if_neg h_28]; first | (exfalso; omega) | (have e := kHM (V := V) (t := t) (f := a) (p := b) (x := 0) (y := 0) (by omega) (by omega); rw [if_pos (by omega), e]; first | (rw [if_pos h_107]; rfl) | (rw [if_neg (by rw [h_107]; decide)]; rfl)) | (have e := kHM (V := V) (t := t) (f := a) (p := b) (x := 0) (y := 1) (by omega) (by omega); rw [if_pos (by omega), e]; first | (rw [if_pos h_107]; rfl) | (rw [if_neg (by rw [h_107]; decide)]; rfl)) | (have e := kHM (V := V) (t := t) (f := a) (p := b) (x := 1) (y := 0) (by omega) (by omega); rw [if_pos (by omega), e]; first | (rw [if_pos h_107]; rfl) | (rw [if_neg (by rw [h_107]; decide)]; rfl)) | (have e := kHM (V := V) (t := t) (f := a) (p := b) (x := 1) (y := 1) (by omega) (by omega); rw [if_pos (by omega), e]; first | (rw [if_pos h_107]; rfl) | (rw [if_neg (by rw [h_107]; decide)]; rfl)) | (have e := kHM (V := V) (t := t) (f := b) (p := a) (x := 0) (y := 0) (by omega) (by omega); rw [if_neg (by omega), e]; first | (rw [if_pos h_107]; rfl) | (rw [if_neg (by rw [h_107]; decide)]; rfl)) | (have e := kHM (V := V) (t := t) (f := b) (p := a) (x := 0) (y := 1) (by omega) (by omega); rw [if_neg (by omega), e]; first | (rw [if_pos h_107]; rfl) | (rw [if_neg (by rw [h_107]; decide)]; rfl)) | (have e := kHM (V := V) (t := t) (f := b) (p := a) (x := 1) (y := 0) (by omega) (by omega); rw [if_neg (by omega), e]; first | (rw [if_pos h_107]; rfl) | (rw [if_neg (by rw [h_107]; decide)]; rfl)) | (have e := kHM (V := V) (t := t) (f := b) (p := a) (x := 1) (y := 1) (by omega) (by omega); rw [if_neg (by omega), e]; first | (rw [if_pos h_107]; rfl) | (rw [if_neg (by rw [h_107]; decide)]; rfl))
              · rfl
            · refine pw_iload hX rfl dX2_giver_110 (q := 112) rfl ?_
              refine pw_goto hX (tgt := 116) dX2_giver_112 (by decide) ?_
              refine pw_ireturn hX dX2_giver_116 ⟨_, rfl, rfl⟩ ⟨congrArg (fun z => some (Value.int z)) ?_, ?_⟩
              · rw [kGv, if_neg h_28]; first | (exfalso; omega) | (have e := kHM (V := V) (t := t) (f := a) (p := b) (x := 0) (y := 0) (by omega) (by omega); rw [if_pos (by omega), e]; first | (rw [if_pos h_107]; rfl) | (rw [if_neg (by rw [h_107]; decide)]; rfl)) | (have e := kHM (V := V) (t := t) (f := a) (p := b) (x := 0) (y := 1) (by omega) (by omega); rw [if_pos (by omega), e]; first | (rw [if_pos h_107]; rfl) | (rw [if_neg (by rw [h_107]; decide)]; rfl)) | (have e := kHM (V := V) (t := t) (f := a) (p := b) (x := 1) (y := 0) (by omega) (by omega); rw [if_pos (by omega), e]; first | (rw [if_pos h_107]; rfl) | (rw [if_neg (by rw [h_107]; decide)]; rfl)) | (have e := kHM (V := V) (t := t) (f := a) (p := b) (x := 1) (y := 1) (by omega) (by omega); rw [if_pos (by omega), e]; first | (rw [if_pos h_107]; rfl) | (rw [if_neg (by rw [h_107]; decide)]; rfl)) | (have e := kHM (V := V) (t := t) (f := b) (p := a) (x := 0) (y := 0) (by omega) (by omega); rw [if_neg (by omega), e]; first | (rw [if_pos h_107]; rfl) | (rw [if_neg (by rw [h_107]; decide)]; rfl)) | (have e := kHM (V := V) (t := t) (f := b) (p := a) (x := 0) (y := 1) (by omega) (by omega); rw [if_neg (by omega), e]; first | (rw [if_pos h_107]; rfl) | (rw [if_neg (by rw [h_107]; decide)]; rfl)) | (have e := kHM (V := V) (t := t) (f := b) (p := a) (x := 1) (y := 0) (by omega) (by omega); rw [if_neg (by omega), e]; first | (rw [if_pos h_107]; rfl) | (rw [if_neg (by rw [h_107]; decide)]; rfl)) | (have e := kHM (V := V) (t := t) (f := b) (p := a) (x := 1) (y := 1) (by omega) (by omega); rw [if_neg (by omega), e]; first | (rw [if_pos h_107]; rfl) | (rw [if_neg (by rw [h_107]; decide)]; rfl))
              · rfl
          · refine pw_iconst hX (k := 1) rfl (by decide) dX2_giver_99 (q := 100) rfl ?_
            refine pw_goto hX (tgt := 104) dX2_giver_100 (by decide) ?_
            refine pw_csI3 hX dX2_giver_104 (q := 107) rfl mi_X2_mayBeHanded ml_X2_147 ⟨rfl, rfl, by decide, by decide⟩ rfl (Nat.le_of_ble_eq_true rfl) (c_X2_mayBeHanded (by exact bV84 hV (by decide) (by omega)) (by decide) (by decide)) ?_
            refine pw_ifB_eq hX (tgt := 115) dX2_giver_107 (q := 110) rfl (by decide) (fun h_107 => ?_) (fun h_107 => ?_)
            · refine pw_iconstm hX dX2_giver_115 (q := 116) rfl ?_
              refine pw_ireturn hX dX2_giver_116 ⟨_, rfl, rfl⟩ ⟨congrArg (fun z => some (Value.int z)) ?_, ?_⟩
              · rw [kGv, if_neg h_28]; first | (exfalso; omega) | (have e := kHM (V := V) (t := t) (f := a) (p := b) (x := 0) (y := 0) (by omega) (by omega); rw [if_pos (by omega), e]; first | (rw [if_pos h_107]; rfl) | (rw [if_neg (by rw [h_107]; decide)]; rfl)) | (have e := kHM (V := V) (t := t) (f := a) (p := b) (x := 0) (y := 1) (by omega) (by omega); rw [if_pos (by omega), e]; first | (rw [if_pos h_107]; rfl) | (rw [if_neg (by rw [h_107]; decide)]; rfl)) | (have e := kHM (V := V) (t := t) (f := a) (p := b) (x := 1) (y := 0) (by omega) (by omega); rw [if_pos (by omega), e]; first | (rw [if_pos h_107]; rfl) | (rw [if_neg (by rw [h_107]; decide)]; rfl)) | (have e := kHM (V := V) (t := t) (f := a) (p := b) (x := 1) (y := 1) (by omega) (by omega); rw [if_pos (by omega), e]; first | (rw [if_pos h_107]; rfl) | (rw [if_neg (by rw [h_107]; decide)]; rfl)) | (have e := kHM (V := V) (t := t) (f := b) (p := a) (x := 0) (y := 0) (by omega) (by omega); rw [if_neg (by omega), e]; first | (rw [if_pos h_107]; rfl) | (rw [if_neg (by rw [h_107]; decide)]; rfl)) | (have e := kHM (V := V) (t := t) (f := b) (p := a) (x := 0) (y := 1) (by omega) (by omega); rw [if_neg (by omega), e]; first | (rw [if_pos h_107]; rfl) | (rw [if_neg (by rw [h_107]; decide)]; rfl)) | (have e := kHM (V := V) (t := t) (f := b) (p := a) (x := 1) (y := 0) (by omega) (by omega); rw [if_neg (by omega), e]; first | (rw [if_pos h_107]; rfl) | (rw [if_neg (by rw [h_107]; decide)]; rfl)) | (have e := kHM (V := V) (t := t) (f := b) (p := a) (x := 1) (y := 1) (by omega) (by omega); rw [if_neg (by omega), e]; first | (rw [if_pos h_107]; rfl) | (rw [if_neg (by rw [h_107]; decide)]; rfl))
              · rfl
            · refine pw_iload hX rfl dX2_giver_110 (q := 112) rfl ?_
              refine pw_goto hX (tgt := 116) dX2_giver_112 (by decide) ?_
              refine pw_ireturn hX dX2_giver_116 ⟨_, rfl, rfl⟩ ⟨congrArg (fun z => some (Value.int z)) ?_, ?_⟩
              · rw [kGv, if_neg h_28]; first | (exfalso; omega) | (have e := kHM (V := V) (t := t) (f := a) (p := b) (x := 0) (y := 0) (by omega) (by omega); rw [if_pos (by omega), e]; first | (rw [if_pos h_107]; rfl) | (rw [if_neg (by rw [h_107]; decide)]; rfl)) | (have e := kHM (V := V) (t := t) (f := a) (p := b) (x := 0) (y := 1) (by omega) (by omega); rw [if_pos (by omega), e]; first | (rw [if_pos h_107]; rfl) | (rw [if_neg (by rw [h_107]; decide)]; rfl)) | (have e := kHM (V := V) (t := t) (f := a) (p := b) (x := 1) (y := 0) (by omega) (by omega); rw [if_pos (by omega), e]; first | (rw [if_pos h_107]; rfl) | (rw [if_neg (by rw [h_107]; decide)]; rfl)) | (have e := kHM (V := V) (t := t) (f := a) (p := b) (x := 1) (y := 1) (by omega) (by omega); rw [if_pos (by omega), e]; first | (rw [if_pos h_107]; rfl) | (rw [if_neg (by rw [h_107]; decide)]; rfl)) | (have e := kHM (V := V) (t := t) (f := b) (p := a) (x := 0) (y := 0) (by omega) (by omega); rw [if_neg (by omega), e]; first | (rw [if_pos h_107]; rfl) | (rw [if_neg (by rw [h_107]; decide)]; rfl)) | (have e := kHM (V := V) (t := t) (f := b) (p := a) (x := 0) (y := 1) (by omega) (by omega); rw [if_neg (by omega), e]; first | (rw [if_pos h_107]; rfl) | (rw [if_neg (by rw [h_107]; decide)]; rfl)) | (have e := kHM (V := V) (t := t) (f := b) (p := a) (x := 1) (y := 0) (by omega) (by omega); rw [if_neg (by omega), e]; first | (rw [if_pos h_107]; rfl) | (rw [if_neg (by rw [h_107]; decide)]; rfl)) | (have e := kHM (V := V) (t := t) (f := b) (p := a) (x := 1) (y := 1) (by omega) (by omega); rw [if_neg (by omega), e]; first | (rw [if_pos h_107]; rfl) | (rw [if_neg (by rw [h_107]; decide)]; rfl))
              · rfl
    · refine pw_iload_n hX rfl dX2_giver_40 (q := 41) rfl ?_
      refine pw_goto hX (tgt := 45) dX2_giver_41 (by decide) ?_
      refine pw_istore hX (by decide) dX2_giver_45 (q := 47) rfl ?_
      refine pw_iload hX rfl dX2_giver_47 (q := 49) rfl ?_
      refine pw_iload hX rfl dX2_giver_49 (q := 51) rfl ?_
      refine pw_icmpN_le hX (by first | omega | (have h9 := bV84 hV (show 5 ≤ 5 ∧ 5 ≤ 10 by decide) (show a * 12 + t < 84 by omega); omega) | (have h9 := bV84 hV (show 5 ≤ 5 ∧ 5 ≤ 10 by decide) (show b * 12 + t < 84 by omega); omega) | first | omega | exact bV_0 hV | exact bV7 hV (by decide) (by omega) | exact bV84 hV (by decide) (by omega) | exact bV12 hV (by omega) | exact bV_1 hV | exact bV_2 hV) (by first | omega | (have h9 := bV84 hV (show 5 ≤ 5 ∧ 5 ≤ 10 by decide) (show a * 12 + t < 84 by omega); omega) | (have h9 := bV84 hV (show 5 ≤ 5 ∧ 5 ≤ 10 by decide) (show b * 12 + t < 84 by omega); omega) | first | omega | exact bV_0 hV | exact bV7 hV (by decide) (by omega) | exact bV84 hV (by decide) (by omega) | exact bV12 hV (by omega) | exact bV_1 hV | exact bV_2 hV) (tgt := 58) dX2_giver_51 (q := 54) rfl (by decide) (fun h_51 => ?_) (fun h_51 => ?_)
      · refine pw_iload_n hX rfl dX2_giver_58 (q := 59) rfl ?_
        refine pw_istore hX (by decide) dX2_giver_59 (q := 61) rfl ?_
        refine pw_iload hX rfl dX2_giver_61 (q := 63) rfl ?_
        refine pw_iload_n hX rfl dX2_giver_63 (q := 64) rfl ?_
        refine pw_cnI2 hX dX2_giver_64 (q := 67) rfl mi_X3_place mn_X2_88 ⟨rfl, rfl, by decide, by decide⟩ rfl (Nat.le_of_ble_eq_true rfl) (c_X3_place) ?_
        refine pw_istore hX (by decide) dX2_giver_67 (q := 69) rfl ?_
        refine pw_aload_n hX rfl dX2_giver_69 (q := 70) rfl ?_
        refine pw_getVF hX ho 9 (by decide) fl_X2_40 rfl dX2_giver_70 (q := 73) rfl ?_
        refine pw_iload hX rfl dX2_giver_73 (q := 75) rfl ?_
        refine pw_ialdVF hX ho 6 (by decide) (show _ < 84 by omega) dX2_giver_75 (q := 76) rfl ?_
        refine pw_aload_n hX rfl dX2_giver_76 (q := 77) rfl ?_
        refine pw_iload hX rfl dX2_giver_77 (q := 79) rfl ?_
        refine pw_cvI1 hX dX2_giver_79 (q := 82) rfl mi_X2_author ml_X2_144 (rcV ho) ⟨rfl, rfl, by decide, by decide⟩ rfl (Nat.le_of_ble_eq_true rfl) (c_X2_author ho hV (by omega)) ?_
        refine pw_iload hX rfl dX2_giver_82 (q := 84) rfl ?_
        refine pw_icmpN_ne hX (by first | omega | (have h9 := bV84 hV (show 5 ≤ 5 ∧ 5 ≤ 10 by decide) (show a * 12 + t < 84 by omega); omega) | (have h9 := bV84 hV (show 5 ≤ 5 ∧ 5 ≤ 10 by decide) (show b * 12 + t < 84 by omega); omega) | first | omega | exact bV_0 hV | exact bV7 hV (by decide) (by omega) | exact bV84 hV (by decide) (by omega) | exact bV12 hV (by omega) | exact bV_1 hV | exact bV_2 hV) (by first | omega | (have h9 := bV84 hV (show 5 ≤ 5 ∧ 5 ≤ 10 by decide) (show a * 12 + t < 84 by omega); omega) | (have h9 := bV84 hV (show 5 ≤ 5 ∧ 5 ≤ 10 by decide) (show b * 12 + t < 84 by omega); omega) | first | omega | exact bV_0 hV | exact bV7 hV (by decide) (by omega) | exact bV84 hV (by decide) (by omega) | exact bV12 hV (by omega) | exact bV_1 hV | exact bV_2 hV) (tgt := 91) dX2_giver_84 (q := 87) rfl (by decide) (fun h_84 => ?_) (fun h_84 => ?_)
        · refine pw_iconst hX (k := 0) rfl (by decide) dX2_giver_91 (q := 92) rfl ?_
          refine pw_iload hX rfl dX2_giver_92 (q := 94) rfl ?_
          refine pw_iload hX rfl dX2_giver_94 (q := 96) rfl ?_
          refine pw_icmpN_le hX (by first | omega | (have h9 := bV84 hV (show 5 ≤ 5 ∧ 5 ≤ 10 by decide) (show a * 12 + t < 84 by omega); omega) | (have h9 := bV84 hV (show 5 ≤ 5 ∧ 5 ≤ 10 by decide) (show b * 12 + t < 84 by omega); omega) | first | omega | exact bV_0 hV | exact bV7 hV (by decide) (by omega) | exact bV84 hV (by decide) (by omega) | exact bV12 hV (by omega) | exact bV_1 hV | exact bV_2 hV) (by first | omega | (have h9 := bV84 hV (show 5 ≤ 5 ∧ 5 ≤ 10 by decide) (show a * 12 + t < 84 by omega); omega) | (have h9 := bV84 hV (show 5 ≤ 5 ∧ 5 ≤ 10 by decide) (show b * 12 + t < 84 by omega); omega) | first | omega | exact bV_0 hV | exact bV7 hV (by decide) (by omega) | exact bV84 hV (by decide) (by omega) | exact bV12 hV (by omega) | exact bV_1 hV | exact bV_2 hV) (tgt := 103) dX2_giver_96 (q := 99) rfl (by decide) (fun h_96 => ?_) (fun h_96 => ?_)
          · refine pw_iconst hX (k := 0) rfl (by decide) dX2_giver_103 (q := 104) rfl ?_
            refine pw_csI3 hX dX2_giver_104 (q := 107) rfl mi_X2_mayBeHanded ml_X2_147 ⟨rfl, rfl, by decide, by decide⟩ rfl (Nat.le_of_ble_eq_true rfl) (c_X2_mayBeHanded (by exact bV84 hV (by decide) (by omega)) (by decide) (by decide)) ?_
            refine pw_ifB_eq hX (tgt := 115) dX2_giver_107 (q := 110) rfl (by decide) (fun h_107 => ?_) (fun h_107 => ?_)
            · refine pw_iconstm hX dX2_giver_115 (q := 116) rfl ?_
              refine pw_ireturn hX dX2_giver_116 ⟨_, rfl, rfl⟩ ⟨congrArg (fun z => some (Value.int z)) ?_, ?_⟩
              · rw [kGv, if_neg h_28]; first | (exfalso; omega) | (have e := kHM (V := V) (t := t) (f := a) (p := b) (x := 0) (y := 0) (by omega) (by omega); rw [if_pos (by omega), e]; first | (rw [if_pos h_107]; rfl) | (rw [if_neg (by rw [h_107]; decide)]; rfl)) | (have e := kHM (V := V) (t := t) (f := a) (p := b) (x := 0) (y := 1) (by omega) (by omega); rw [if_pos (by omega), e]; first | (rw [if_pos h_107]; rfl) | (rw [if_neg (by rw [h_107]; decide)]; rfl)) | (have e := kHM (V := V) (t := t) (f := a) (p := b) (x := 1) (y := 0) (by omega) (by omega); rw [if_pos (by omega), e]; first | (rw [if_pos h_107]; rfl) | (rw [if_neg (by rw [h_107]; decide)]; rfl)) | (have e := kHM (V := V) (t := t) (f := a) (p := b) (x := 1) (y := 1) (by omega) (by omega); rw [if_pos (by omega), e]; first | (rw [if_pos h_107]; rfl) | (rw [if_neg (by rw [h_107]; decide)]; rfl)) | (have e := kHM (V := V) (t := t) (f := b) (p := a) (x := 0) (y := 0) (by omega) (by omega); rw [if_neg (by omega), e]; first | (rw [if_pos h_107]; rfl) | (rw [if_neg (by rw [h_107]; decide)]; rfl)) | (have e := kHM (V := V) (t := t) (f := b) (p := a) (x := 0) (y := 1) (by omega) (by omega); rw [if_neg (by omega), e]; first | (rw [if_pos h_107]; rfl) | (rw [if_neg (by rw [h_107]; decide)]; rfl)) | (have e := kHM (V := V) (t := t) (f := b) (p := a) (x := 1) (y := 0) (by omega) (by omega); rw [if_neg (by omega), e]; first | (rw [if_pos h_107]; rfl) | (rw [if_neg (by rw [h_107]; decide)]; rfl)) | (have e := kHM (V := V) (t := t) (f := b) (p := a) (x := 1) (y := 1) (by omega) (by omega); rw [if_neg (by omega), e]; first | (rw [if_pos h_107]; rfl) | (rw [if_neg (by rw [h_107]; decide)]; rfl))
              · rfl
            · refine pw_iload hX rfl dX2_giver_110 (q := 112) rfl ?_
              refine pw_goto hX (tgt := 116) dX2_giver_112 (by decide) ?_
              refine pw_ireturn hX dX2_giver_116 ⟨_, rfl, rfl⟩ ⟨congrArg (fun z => some (Value.int z)) ?_, ?_⟩
              · rw [kGv, if_neg h_28]; first | (exfalso; omega) | (have e := kHM (V := V) (t := t) (f := a) (p := b) (x := 0) (y := 0) (by omega) (by omega); rw [if_pos (by omega), e]; first | (rw [if_pos h_107]; rfl) | (rw [if_neg (by rw [h_107]; decide)]; rfl)) | (have e := kHM (V := V) (t := t) (f := a) (p := b) (x := 0) (y := 1) (by omega) (by omega); rw [if_pos (by omega), e]; first | (rw [if_pos h_107]; rfl) | (rw [if_neg (by rw [h_107]; decide)]; rfl)) | (have e := kHM (V := V) (t := t) (f := a) (p := b) (x := 1) (y := 0) (by omega) (by omega); rw [if_pos (by omega), e]; first | (rw [if_pos h_107]; rfl) | (rw [if_neg (by rw [h_107]; decide)]; rfl)) | (have e := kHM (V := V) (t := t) (f := a) (p := b) (x := 1) (y := 1) (by omega) (by omega); rw [if_pos (by omega), e]; first | (rw [if_pos h_107]; rfl) | (rw [if_neg (by rw [h_107]; decide)]; rfl)) | (have e := kHM (V := V) (t := t) (f := b) (p := a) (x := 0) (y := 0) (by omega) (by omega); rw [if_neg (by omega), e]; first | (rw [if_pos h_107]; rfl) | (rw [if_neg (by rw [h_107]; decide)]; rfl)) | (have e := kHM (V := V) (t := t) (f := b) (p := a) (x := 0) (y := 1) (by omega) (by omega); rw [if_neg (by omega), e]; first | (rw [if_pos h_107]; rfl) | (rw [if_neg (by rw [h_107]; decide)]; rfl)) | (have e := kHM (V := V) (t := t) (f := b) (p := a) (x := 1) (y := 0) (by omega) (by omega); rw [if_neg (by omega), e]; first | (rw [if_pos h_107]; rfl) | (rw [if_neg (by rw [h_107]; decide)]; rfl)) | (have e := kHM (V := V) (t := t) (f := b) (p := a) (x := 1) (y := 1) (by omega) (by omega); rw [if_neg (by omega), e]; first | (rw [if_pos h_107]; rfl) | (rw [if_neg (by rw [h_107]; decide)]; rfl))
              · rfl
          · refine pw_iconst hX (k := 1) rfl (by decide) dX2_giver_99 (q := 100) rfl ?_
            refine pw_goto hX (tgt := 104) dX2_giver_100 (by decide) ?_
            refine pw_csI3 hX dX2_giver_104 (q := 107) rfl mi_X2_mayBeHanded ml_X2_147 ⟨rfl, rfl, by decide, by decide⟩ rfl (Nat.le_of_ble_eq_true rfl) (c_X2_mayBeHanded (by exact bV84 hV (by decide) (by omega)) (by decide) (by decide)) ?_
            refine pw_ifB_eq hX (tgt := 115) dX2_giver_107 (q := 110) rfl (by decide) (fun h_107 => ?_) (fun h_107 => ?_)
            · refine pw_iconstm hX dX2_giver_115 (q := 116) rfl ?_
              refine pw_ireturn hX dX2_giver_116 ⟨_, rfl, rfl⟩ ⟨congrArg (fun z => some (Value.int z)) ?_, ?_⟩
              · rw [kGv, if_neg h_28]; first | (exfalso; omega) | (have e := kHM (V := V) (t := t) (f := a) (p := b) (x := 0) (y := 0) (by omega) (by omega); rw [if_pos (by omega), e]; first | (rw [if_pos h_107]; rfl) | (rw [if_neg (by rw [h_107]; decide)]; rfl)) | (have e := kHM (V := V) (t := t) (f := a) (p := b) (x := 0) (y := 1) (by omega) (by omega); rw [if_pos (by omega), e]; first | (rw [if_pos h_107]; rfl) | (rw [if_neg (by rw [h_107]; decide)]; rfl)) | (have e := kHM (V := V) (t := t) (f := a) (p := b) (x := 1) (y := 0) (by omega) (by omega); rw [if_pos (by omega), e]; first | (rw [if_pos h_107]; rfl) | (rw [if_neg (by rw [h_107]; decide)]; rfl)) | (have e := kHM (V := V) (t := t) (f := a) (p := b) (x := 1) (y := 1) (by omega) (by omega); rw [if_pos (by omega), e]; first | (rw [if_pos h_107]; rfl) | (rw [if_neg (by rw [h_107]; decide)]; rfl)) | (have e := kHM (V := V) (t := t) (f := b) (p := a) (x := 0) (y := 0) (by omega) (by omega); rw [if_neg (by omega), e]; first | (rw [if_pos h_107]; rfl) | (rw [if_neg (by rw [h_107]; decide)]; rfl)) | (have e := kHM (V := V) (t := t) (f := b) (p := a) (x := 0) (y := 1) (by omega) (by omega); rw [if_neg (by omega), e]; first | (rw [if_pos h_107]; rfl) | (rw [if_neg (by rw [h_107]; decide)]; rfl)) | (have e := kHM (V := V) (t := t) (f := b) (p := a) (x := 1) (y := 0) (by omega) (by omega); rw [if_neg (by omega), e]; first | (rw [if_pos h_107]; rfl) | (rw [if_neg (by rw [h_107]; decide)]; rfl)) | (have e := kHM (V := V) (t := t) (f := b) (p := a) (x := 1) (y := 1) (by omega) (by omega); rw [if_neg (by omega), e]; first | (rw [if_pos h_107]; rfl) | (rw [if_neg (by rw [h_107]; decide)]; rfl))
              · rfl
            · refine pw_iload hX rfl dX2_giver_110 (q := 112) rfl ?_
              refine pw_goto hX (tgt := 116) dX2_giver_112 (by decide) ?_
              refine pw_ireturn hX dX2_giver_116 ⟨_, rfl, rfl⟩ ⟨congrArg (fun z => some (Value.int z)) ?_, ?_⟩
              · rw [kGv, if_neg h_28]; first | (exfalso; omega) | (have e := kHM (V := V) (t := t) (f := a) (p := b) (x := 0) (y := 0) (by omega) (by omega); rw [if_pos (by omega), e]; first | (rw [if_pos h_107]; rfl) | (rw [if_neg (by rw [h_107]; decide)]; rfl)) | (have e := kHM (V := V) (t := t) (f := a) (p := b) (x := 0) (y := 1) (by omega) (by omega); rw [if_pos (by omega), e]; first | (rw [if_pos h_107]; rfl) | (rw [if_neg (by rw [h_107]; decide)]; rfl)) | (have e := kHM (V := V) (t := t) (f := a) (p := b) (x := 1) (y := 0) (by omega) (by omega); rw [if_pos (by omega), e]; first | (rw [if_pos h_107]; rfl) | (rw [if_neg (by rw [h_107]; decide)]; rfl)) | (have e := kHM (V := V) (t := t) (f := a) (p := b) (x := 1) (y := 1) (by omega) (by omega); rw [if_pos (by omega), e]; first | (rw [if_pos h_107]; rfl) | (rw [if_neg (by rw [h_107]; decide)]; rfl)) | (have e := kHM (V := V) (t := t) (f := b) (p := a) (x := 0) (y := 0) (by omega) (by omega); rw [if_neg (by omega), e]; first | (rw [if_pos h_107]; rfl) | (rw [if_neg (by rw [h_107]; decide)]; rfl)) | (have e := kHM (V := V) (t := t) (f := b) (p := a) (x := 0) (y := 1) (by omega) (by omega); rw [if_neg (by omega), e]; first | (rw [if_pos h_107]; rfl) | (rw [if_neg (by rw [h_107]; decide)]; rfl)) | (have e := kHM (V := V) (t := t) (f := b) (p := a) (x := 1) (y := 0) (by omega) (by omega); rw [if_neg (by omega), e]; first | (rw [if_pos h_107]; rfl) | (rw [if_neg (by rw [h_107]; decide)]; rfl)) | (have e := kHM (V := V) (t := t) (f := b) (p := a) (x := 1) (y := 1) (by omega) (by omega); rw [if_neg (by omega), e]; first | (rw [if_pos h_107]; rfl) | (rw [if_neg (by rw [h_107]; decide)]; rfl))
              · rfl
        · refine pw_iconst hX (k := 1) rfl (by decide) dX2_giver_87 (q := 88) rfl ?_
          refine pw_goto hX (tgt := 92) dX2_giver_88 (by decide) ?_
          refine pw_iload hX rfl dX2_giver_92 (q := 94) rfl ?_
          refine pw_iload hX rfl dX2_giver_94 (q := 96) rfl ?_
          refine pw_icmpN_le hX (by first | omega | (have h9 := bV84 hV (show 5 ≤ 5 ∧ 5 ≤ 10 by decide) (show a * 12 + t < 84 by omega); omega) | (have h9 := bV84 hV (show 5 ≤ 5 ∧ 5 ≤ 10 by decide) (show b * 12 + t < 84 by omega); omega) | first | omega | exact bV_0 hV | exact bV7 hV (by decide) (by omega) | exact bV84 hV (by decide) (by omega) | exact bV12 hV (by omega) | exact bV_1 hV | exact bV_2 hV) (by first | omega | (have h9 := bV84 hV (show 5 ≤ 5 ∧ 5 ≤ 10 by decide) (show a * 12 + t < 84 by omega); omega) | (have h9 := bV84 hV (show 5 ≤ 5 ∧ 5 ≤ 10 by decide) (show b * 12 + t < 84 by omega); omega) | first | omega | exact bV_0 hV | exact bV7 hV (by decide) (by omega) | exact bV84 hV (by decide) (by omega) | exact bV12 hV (by omega) | exact bV_1 hV | exact bV_2 hV) (tgt := 103) dX2_giver_96 (q := 99) rfl (by decide) (fun h_96 => ?_) (fun h_96 => ?_)
          · refine pw_iconst hX (k := 0) rfl (by decide) dX2_giver_103 (q := 104) rfl ?_
            refine pw_csI3 hX dX2_giver_104 (q := 107) rfl mi_X2_mayBeHanded ml_X2_147 ⟨rfl, rfl, by decide, by decide⟩ rfl (Nat.le_of_ble_eq_true rfl) (c_X2_mayBeHanded (by exact bV84 hV (by decide) (by omega)) (by decide) (by decide)) ?_
            refine pw_ifB_eq hX (tgt := 115) dX2_giver_107 (q := 110) rfl (by decide) (fun h_107 => ?_) (fun h_107 => ?_)
            · refine pw_iconstm hX dX2_giver_115 (q := 116) rfl ?_
              refine pw_ireturn hX dX2_giver_116 ⟨_, rfl, rfl⟩ ⟨congrArg (fun z => some (Value.int z)) ?_, ?_⟩
              · rw [kGv, if_neg h_28]; first | (exfalso; omega) | (have e := kHM (V := V) (t := t) (f := a) (p := b) (x := 0) (y := 0) (by omega) (by omega); rw [if_pos (by omega), e]; first | (rw [if_pos h_107]; rfl) | (rw [if_neg (by rw [h_107]; decide)]; rfl)) | (have e := kHM (V := V) (t := t) (f := a) (p := b) (x := 0) (y := 1) (by omega) (by omega); rw [if_pos (by omega), e]; first | (rw [if_pos h_107]; rfl) | (rw [if_neg (by rw [h_107]; decide)]; rfl)) | (have e := kHM (V := V) (t := t) (f := a) (p := b) (x := 1) (y := 0) (by omega) (by omega); rw [if_pos (by omega), e]; first | (rw [if_pos h_107]; rfl) | (rw [if_neg (by rw [h_107]; decide)]; rfl)) | (have e := kHM (V := V) (t := t) (f := a) (p := b) (x := 1) (y := 1) (by omega) (by omega); rw [if_pos (by omega), e]; first | (rw [if_pos h_107]; rfl) | (rw [if_neg (by rw [h_107]; decide)]; rfl)) | (have e := kHM (V := V) (t := t) (f := b) (p := a) (x := 0) (y := 0) (by omega) (by omega); rw [if_neg (by omega), e]; first | (rw [if_pos h_107]; rfl) | (rw [if_neg (by rw [h_107]; decide)]; rfl)) | (have e := kHM (V := V) (t := t) (f := b) (p := a) (x := 0) (y := 1) (by omega) (by omega); rw [if_neg (by omega), e]; first | (rw [if_pos h_107]; rfl) | (rw [if_neg (by rw [h_107]; decide)]; rfl)) | (have e := kHM (V := V) (t := t) (f := b) (p := a) (x := 1) (y := 0) (by omega) (by omega); rw [if_neg (by omega), e]; first | (rw [if_pos h_107]; rfl) | (rw [if_neg (by rw [h_107]; decide)]; rfl)) | (have e := kHM (V := V) (t := t) (f := b) (p := a) (x := 1) (y := 1) (by omega) (by omega); rw [if_neg (by omega), e]; first | (rw [if_pos h_107]; rfl) | (rw [if_neg (by rw [h_107]; decide)]; rfl))
              · rfl
            · refine pw_iload hX rfl dX2_giver_110 (q := 112) rfl ?_
              refine pw_goto hX (tgt := 116) dX2_giver_112 (by decide) ?_
              refine pw_ireturn hX dX2_giver_116 ⟨_, rfl, rfl⟩ ⟨congrArg (fun z => some (Value.int z)) ?_, ?_⟩
              · rw [kGv, if_neg h_28]; first | (exfalso; omega) | (have e := kHM (V := V) (t := t) (f := a) (p := b) (x := 0) (y := 0) (by omega) (by omega); rw [if_pos (by omega), e]; first | (rw [if_pos h_107]; rfl) | (rw [if_neg (by rw [h_107]; decide)]; rfl)) | (have e := kHM (V := V) (t := t) (f := a) (p := b) (x := 0) (y := 1) (by omega) (by omega); rw [if_pos (by omega), e]; first | (rw [if_pos h_107]; rfl) | (rw [if_neg (by rw [h_107]; decide)]; rfl)) | (have e := kHM (V := V) (t := t) (f := a) (p := b) (x := 1) (y := 0) (by omega) (by omega); rw [if_pos (by omega), e]; first | (rw [if_pos h_107]; rfl) | (rw [if_neg (by rw [h_107]; decide)]; rfl)) | (have e := kHM (V := V) (t := t) (f := a) (p := b) (x := 1) (y := 1) (by omega) (by omega); rw [if_pos (by omega), e]; first | (rw [if_pos h_107]; rfl) | (rw [if_neg (by rw [h_107]; decide)]; rfl)) | (have e := kHM (V := V) (t := t) (f := b) (p := a) (x := 0) (y := 0) (by omega) (by omega); rw [if_neg (by omega), e]; first | (rw [if_pos h_107]; rfl) | (rw [if_neg (by rw [h_107]; decide)]; rfl)) | (have e := kHM (V := V) (t := t) (f := b) (p := a) (x := 0) (y := 1) (by omega) (by omega); rw [if_neg (by omega), e]; first | (rw [if_pos h_107]; rfl) | (rw [if_neg (by rw [h_107]; decide)]; rfl)) | (have e := kHM (V := V) (t := t) (f := b) (p := a) (x := 1) (y := 0) (by omega) (by omega); rw [if_neg (by omega), e]; first | (rw [if_pos h_107]; rfl) | (rw [if_neg (by rw [h_107]; decide)]; rfl)) | (have e := kHM (V := V) (t := t) (f := b) (p := a) (x := 1) (y := 1) (by omega) (by omega); rw [if_neg (by omega), e]; first | (rw [if_pos h_107]; rfl) | (rw [if_neg (by rw [h_107]; decide)]; rfl))
              · rfl
          · refine pw_iconst hX (k := 1) rfl (by decide) dX2_giver_99 (q := 100) rfl ?_
            refine pw_goto hX (tgt := 104) dX2_giver_100 (by decide) ?_
            refine pw_csI3 hX dX2_giver_104 (q := 107) rfl mi_X2_mayBeHanded ml_X2_147 ⟨rfl, rfl, by decide, by decide⟩ rfl (Nat.le_of_ble_eq_true rfl) (c_X2_mayBeHanded (by exact bV84 hV (by decide) (by omega)) (by decide) (by decide)) ?_
            refine pw_ifB_eq hX (tgt := 115) dX2_giver_107 (q := 110) rfl (by decide) (fun h_107 => ?_) (fun h_107 => ?_)
            · refine pw_iconstm hX dX2_giver_115 (q := 116) rfl ?_
              refine pw_ireturn hX dX2_giver_116 ⟨_, rfl, rfl⟩ ⟨congrArg (fun z => some (Value.int z)) ?_, ?_⟩
              · rw [kGv, if_neg h_28]; first | (exfalso; omega) | (have e := kHM (V := V) (t := t) (f := a) (p := b) (x := 0) (y := 0) (by omega) (by omega); rw [if_pos (by omega), e]; first | (rw [if_pos h_107]; rfl) | (rw [if_neg (by rw [h_107]; decide)]; rfl)) | (have e := kHM (V := V) (t := t) (f := a) (p := b) (x := 0) (y := 1) (by omega) (by omega); rw [if_pos (by omega), e]; first | (rw [if_pos h_107]; rfl) | (rw [if_neg (by rw [h_107]; decide)]; rfl)) | (have e := kHM (V := V) (t := t) (f := a) (p := b) (x := 1) (y := 0) (by omega) (by omega); rw [if_pos (by omega), e]; first | (rw [if_pos h_107]; rfl) | (rw [if_neg (by rw [h_107]; decide)]; rfl)) | (have e := kHM (V := V) (t := t) (f := a) (p := b) (x := 1) (y := 1) (by omega) (by omega); rw [if_pos (by omega), e]; first | (rw [if_pos h_107]; rfl) | (rw [if_neg (by rw [h_107]; decide)]; rfl)) | (have e := kHM (V := V) (t := t) (f := b) (p := a) (x := 0) (y := 0) (by omega) (by omega); rw [if_neg (by omega), e]; first | (rw [if_pos h_107]; rfl) | (rw [if_neg (by rw [h_107]; decide)]; rfl)) | (have e := kHM (V := V) (t := t) (f := b) (p := a) (x := 0) (y := 1) (by omega) (by omega); rw [if_neg (by omega), e]; first | (rw [if_pos h_107]; rfl) | (rw [if_neg (by rw [h_107]; decide)]; rfl)) | (have e := kHM (V := V) (t := t) (f := b) (p := a) (x := 1) (y := 0) (by omega) (by omega); rw [if_neg (by omega), e]; first | (rw [if_pos h_107]; rfl) | (rw [if_neg (by rw [h_107]; decide)]; rfl)) | (have e := kHM (V := V) (t := t) (f := b) (p := a) (x := 1) (y := 1) (by omega) (by omega); rw [if_neg (by omega), e]; first | (rw [if_pos h_107]; rfl) | (rw [if_neg (by rw [h_107]; decide)]; rfl))
              · rfl
            · refine pw_iload hX rfl dX2_giver_110 (q := 112) rfl ?_
              refine pw_goto hX (tgt := 116) dX2_giver_112 (by decide) ?_
              refine pw_ireturn hX dX2_giver_116 ⟨_, rfl, rfl⟩ ⟨congrArg (fun z => some (Value.int z)) ?_, ?_⟩
              · rw [kGv, if_neg h_28]; first | (exfalso; omega) | (have e := kHM (V := V) (t := t) (f := a) (p := b) (x := 0) (y := 0) (by omega) (by omega); rw [if_pos (by omega), e]; first | (rw [if_pos h_107]; rfl) | (rw [if_neg (by rw [h_107]; decide)]; rfl)) | (have e := kHM (V := V) (t := t) (f := a) (p := b) (x := 0) (y := 1) (by omega) (by omega); rw [if_pos (by omega), e]; first | (rw [if_pos h_107]; rfl) | (rw [if_neg (by rw [h_107]; decide)]; rfl)) | (have e := kHM (V := V) (t := t) (f := a) (p := b) (x := 1) (y := 0) (by omega) (by omega); rw [if_pos (by omega), e]; first | (rw [if_pos h_107]; rfl) | (rw [if_neg (by rw [h_107]; decide)]; rfl)) | (have e := kHM (V := V) (t := t) (f := a) (p := b) (x := 1) (y := 1) (by omega) (by omega); rw [if_pos (by omega), e]; first | (rw [if_pos h_107]; rfl) | (rw [if_neg (by rw [h_107]; decide)]; rfl)) | (have e := kHM (V := V) (t := t) (f := b) (p := a) (x := 0) (y := 0) (by omega) (by omega); rw [if_neg (by omega), e]; first | (rw [if_pos h_107]; rfl) | (rw [if_neg (by rw [h_107]; decide)]; rfl)) | (have e := kHM (V := V) (t := t) (f := b) (p := a) (x := 0) (y := 1) (by omega) (by omega); rw [if_neg (by omega), e]; first | (rw [if_pos h_107]; rfl) | (rw [if_neg (by rw [h_107]; decide)]; rfl)) | (have e := kHM (V := V) (t := t) (f := b) (p := a) (x := 1) (y := 0) (by omega) (by omega); rw [if_neg (by omega), e]; first | (rw [if_pos h_107]; rfl) | (rw [if_neg (by rw [h_107]; decide)]; rfl)) | (have e := kHM (V := V) (t := t) (f := b) (p := a) (x := 1) (y := 1) (by omega) (by omega); rw [if_neg (by omega), e]; first | (rw [if_pos h_107]; rfl) | (rw [if_neg (by rw [h_107]; decide)]; rfl))
              · rfl
      · refine pw_iload_n hX rfl dX2_giver_54 (q := 55) rfl ?_
        refine pw_goto hX (tgt := 59) dX2_giver_55 (by decide) ?_
        refine pw_istore hX (by decide) dX2_giver_59 (q := 61) rfl ?_
        refine pw_iload hX rfl dX2_giver_61 (q := 63) rfl ?_
        refine pw_iload_n hX rfl dX2_giver_63 (q := 64) rfl ?_
        refine pw_cnI2 hX dX2_giver_64 (q := 67) rfl mi_X3_place mn_X2_88 ⟨rfl, rfl, by decide, by decide⟩ rfl (Nat.le_of_ble_eq_true rfl) (c_X3_place) ?_
        refine pw_istore hX (by decide) dX2_giver_67 (q := 69) rfl ?_
        refine pw_aload_n hX rfl dX2_giver_69 (q := 70) rfl ?_
        refine pw_getVF hX ho 9 (by decide) fl_X2_40 rfl dX2_giver_70 (q := 73) rfl ?_
        refine pw_iload hX rfl dX2_giver_73 (q := 75) rfl ?_
        refine pw_ialdVF hX ho 6 (by decide) (show _ < 84 by omega) dX2_giver_75 (q := 76) rfl ?_
        refine pw_aload_n hX rfl dX2_giver_76 (q := 77) rfl ?_
        refine pw_iload hX rfl dX2_giver_77 (q := 79) rfl ?_
        refine pw_cvI1 hX dX2_giver_79 (q := 82) rfl mi_X2_author ml_X2_144 (rcV ho) ⟨rfl, rfl, by decide, by decide⟩ rfl (Nat.le_of_ble_eq_true rfl) (c_X2_author ho hV (by omega)) ?_
        refine pw_iload hX rfl dX2_giver_82 (q := 84) rfl ?_
        refine pw_icmpN_ne hX (by first | omega | (have h9 := bV84 hV (show 5 ≤ 5 ∧ 5 ≤ 10 by decide) (show a * 12 + t < 84 by omega); omega) | (have h9 := bV84 hV (show 5 ≤ 5 ∧ 5 ≤ 10 by decide) (show b * 12 + t < 84 by omega); omega) | first | omega | exact bV_0 hV | exact bV7 hV (by decide) (by omega) | exact bV84 hV (by decide) (by omega) | exact bV12 hV (by omega) | exact bV_1 hV | exact bV_2 hV) (by first | omega | (have h9 := bV84 hV (show 5 ≤ 5 ∧ 5 ≤ 10 by decide) (show a * 12 + t < 84 by omega); omega) | (have h9 := bV84 hV (show 5 ≤ 5 ∧ 5 ≤ 10 by decide) (show b * 12 + t < 84 by omega); omega) | first | omega | exact bV_0 hV | exact bV7 hV (by decide) (by omega) | exact bV84 hV (by decide) (by omega) | exact bV12 hV (by omega) | exact bV_1 hV | exact bV_2 hV) (tgt := 91) dX2_giver_84 (q := 87) rfl (by decide) (fun h_84 => ?_) (fun h_84 => ?_)
        · refine pw_iconst hX (k := 0) rfl (by decide) dX2_giver_91 (q := 92) rfl ?_
          refine pw_iload hX rfl dX2_giver_92 (q := 94) rfl ?_
          refine pw_iload hX rfl dX2_giver_94 (q := 96) rfl ?_
          refine pw_icmpN_le hX (by first | omega | (have h9 := bV84 hV (show 5 ≤ 5 ∧ 5 ≤ 10 by decide) (show a * 12 + t < 84 by omega); omega) | (have h9 := bV84 hV (show 5 ≤ 5 ∧ 5 ≤ 10 by decide) (show b * 12 + t < 84 by omega); omega) | first | omega | exact bV_0 hV | exact bV7 hV (by decide) (by omega) | exact bV84 hV (by decide) (by omega) | exact bV12 hV (by omega) | exact bV_1 hV | exact bV_2 hV) (by first | omega | (have h9 := bV84 hV (show 5 ≤ 5 ∧ 5 ≤ 10 by decide) (show a * 12 + t < 84 by omega); omega) | (have h9 := bV84 hV (show 5 ≤ 5 ∧ 5 ≤ 10 by decide) (show b * 12 + t < 84 by omega); omega) | first | omega | exact bV_0 hV | exact bV7 hV (by decide) (by omega) | exact bV84 hV (by decide) (by omega) | exact bV12 hV (by omega) | exact bV_1 hV | exact bV_2 hV) (tgt := 103) dX2_giver_96 (q := 99) rfl (by decide) (fun h_96 => ?_) (fun h_96 => ?_)
          · refine pw_iconst hX (k := 0) rfl (by decide) dX2_giver_103 (q := 104) rfl ?_
            refine pw_csI3 hX dX2_giver_104 (q := 107) rfl mi_X2_mayBeHanded ml_X2_147 ⟨rfl, rfl, by decide, by decide⟩ rfl (Nat.le_of_ble_eq_true rfl) (c_X2_mayBeHanded (by exact bV84 hV (by decide) (by omega)) (by decide) (by decide)) ?_
            refine pw_ifB_eq hX (tgt := 115) dX2_giver_107 (q := 110) rfl (by decide) (fun h_107 => ?_) (fun h_107 => ?_)
            · refine pw_iconstm hX dX2_giver_115 (q := 116) rfl ?_
              refine pw_ireturn hX dX2_giver_116 ⟨_, rfl, rfl⟩ ⟨congrArg (fun z => some (Value.int z)) ?_, ?_⟩
              · rw [kGv, if_neg h_28]; first | (exfalso; omega) | (have e := kHM (V := V) (t := t) (f := a) (p := b) (x := 0) (y := 0) (by omega) (by omega); rw [if_pos (by omega), e]; first | (rw [if_pos h_107]; rfl) | (rw [if_neg (by rw [h_107]; decide)]; rfl)) | (have e := kHM (V := V) (t := t) (f := a) (p := b) (x := 0) (y := 1) (by omega) (by omega); rw [if_pos (by omega), e]; first | (rw [if_pos h_107]; rfl) | (rw [if_neg (by rw [h_107]; decide)]; rfl)) | (have e := kHM (V := V) (t := t) (f := a) (p := b) (x := 1) (y := 0) (by omega) (by omega); rw [if_pos (by omega), e]; first | (rw [if_pos h_107]; rfl) | (rw [if_neg (by rw [h_107]; decide)]; rfl)) | (have e := kHM (V := V) (t := t) (f := a) (p := b) (x := 1) (y := 1) (by omega) (by omega); rw [if_pos (by omega), e]; first | (rw [if_pos h_107]; rfl) | (rw [if_neg (by rw [h_107]; decide)]; rfl)) | (have e := kHM (V := V) (t := t) (f := b) (p := a) (x := 0) (y := 0) (by omega) (by omega); rw [if_neg (by omega), e]; first | (rw [if_pos h_107]; rfl) | (rw [if_neg (by rw [h_107]; decide)]; rfl)) | (have e := kHM (V := V) (t := t) (f := b) (p := a) (x := 0) (y := 1) (by omega) (by omega); rw [if_neg (by omega), e]; first | (rw [if_pos h_107]; rfl) | (rw [if_neg (by rw [h_107]; decide)]; rfl)) | (have e := kHM (V := V) (t := t) (f := b) (p := a) (x := 1) (y := 0) (by omega) (by omega); rw [if_neg (by omega), e]; first | (rw [if_pos h_107]; rfl) | (rw [if_neg (by rw [h_107]; decide)]; rfl)) | (have e := kHM (V := V) (t := t) (f := b) (p := a) (x := 1) (y := 1) (by omega) (by omega); rw [if_neg (by omega), e]; first | (rw [if_pos h_107]; rfl) | (rw [if_neg (by rw [h_107]; decide)]; rfl))
              · rfl
            · refine pw_iload hX rfl dX2_giver_110 (q := 112) rfl ?_
              refine pw_goto hX (tgt := 116) dX2_giver_112 (by decide) ?_
              refine pw_ireturn hX dX2_giver_116 ⟨_, rfl, rfl⟩ ⟨congrArg (fun z => some (Value.int z)) ?_, ?_⟩
              · rw [kGv, if_neg h_28]; first | (exfalso; omega) | (have e := kHM (V := V) (t := t) (f := a) (p := b) (x := 0) (y := 0) (by omega) (by omega); rw [if_pos (by omega), e]; first | (rw [if_pos h_107]; rfl) | (rw [if_neg (by rw [h_107]; decide)]; rfl)) | (have e := kHM (V := V) (t := t) (f := a) (p := b) (x := 0) (y := 1) (by omega) (by omega); rw [if_pos (by omega), e]; first | (rw [if_pos h_107]; rfl) | (rw [if_neg (by rw [h_107]; decide)]; rfl)) | (have e := kHM (V := V) (t := t) (f := a) (p := b) (x := 1) (y := 0) (by omega) (by omega); rw [if_pos (by omega), e]; first | (rw [if_pos h_107]; rfl) | (rw [if_neg (by rw [h_107]; decide)]; rfl)) | (have e := kHM (V := V) (t := t) (f := a) (p := b) (x := 1) (y := 1) (by omega) (by omega); rw [if_pos (by omega), e]; first | (rw [if_pos h_107]; rfl) | (rw [if_neg (by rw [h_107]; decide)]; rfl)) | (have e := kHM (V := V) (t := t) (f := b) (p := a) (x := 0) (y := 0) (by omega) (by omega); rw [if_neg (by omega), e]; first | (rw [if_pos h_107]; rfl) | (rw [if_neg (by rw [h_107]; decide)]; rfl)) | (have e := kHM (V := V) (t := t) (f := b) (p := a) (x := 0) (y := 1) (by omega) (by omega); rw [if_neg (by omega), e]; first | (rw [if_pos h_107]; rfl) | (rw [if_neg (by rw [h_107]; decide)]; rfl)) | (have e := kHM (V := V) (t := t) (f := b) (p := a) (x := 1) (y := 0) (by omega) (by omega); rw [if_neg (by omega), e]; first | (rw [if_pos h_107]; rfl) | (rw [if_neg (by rw [h_107]; decide)]; rfl)) | (have e := kHM (V := V) (t := t) (f := b) (p := a) (x := 1) (y := 1) (by omega) (by omega); rw [if_neg (by omega), e]; first | (rw [if_pos h_107]; rfl) | (rw [if_neg (by rw [h_107]; decide)]; rfl))
              · rfl
          · refine pw_iconst hX (k := 1) rfl (by decide) dX2_giver_99 (q := 100) rfl ?_
            refine pw_goto hX (tgt := 104) dX2_giver_100 (by decide) ?_
            refine pw_csI3 hX dX2_giver_104 (q := 107) rfl mi_X2_mayBeHanded ml_X2_147 ⟨rfl, rfl, by decide, by decide⟩ rfl (Nat.le_of_ble_eq_true rfl) (c_X2_mayBeHanded (by exact bV84 hV (by decide) (by omega)) (by decide) (by decide)) ?_
            refine pw_ifB_eq hX (tgt := 115) dX2_giver_107 (q := 110) rfl (by decide) (fun h_107 => ?_) (fun h_107 => ?_)
            · refine pw_iconstm hX dX2_giver_115 (q := 116) rfl ?_
              refine pw_ireturn hX dX2_giver_116 ⟨_, rfl, rfl⟩ ⟨congrArg (fun z => some (Value.int z)) ?_, ?_⟩
              · rw [kGv, if_neg h_28]; first | (exfalso; omega) | (have e := kHM (V := V) (t := t) (f := a) (p := b) (x := 0) (y := 0) (by omega) (by omega); rw [if_pos (by omega), e]; first | (rw [if_pos h_107]; rfl) | (rw [if_neg (by rw [h_107]; decide)]; rfl)) | (have e := kHM (V := V) (t := t) (f := a) (p := b) (x := 0) (y := 1) (by omega) (by omega); rw [if_pos (by omega), e]; first | (rw [if_pos h_107]; rfl) | (rw [if_neg (by rw [h_107]; decide)]; rfl)) | (have e := kHM (V := V) (t := t) (f := a) (p := b) (x := 1) (y := 0) (by omega) (by omega); rw [if_pos (by omega), e]; first | (rw [if_pos h_107]; rfl) | (rw [if_neg (by rw [h_107]; decide)]; rfl)) | (have e := kHM (V := V) (t := t) (f := a) (p := b) (x := 1) (y := 1) (by omega) (by omega); rw [if_pos (by omega), e]; first | (rw [if_pos h_107]; rfl) | (rw [if_neg (by rw [h_107]; decide)]; rfl)) | (have e := kHM (V := V) (t := t) (f := b) (p := a) (x := 0) (y := 0) (by omega) (by omega); rw [if_neg (by omega), e]; first | (rw [if_pos h_107]; rfl) | (rw [if_neg (by rw [h_107]; decide)]; rfl)) | (have e := kHM (V := V) (t := t) (f := b) (p := a) (x := 0) (y := 1) (by omega) (by omega); rw [if_neg (by omega), e]; first | (rw [if_pos h_107]; rfl) | (rw [if_neg (by rw [h_107]; decide)]; rfl)) | (have e := kHM (V := V) (t := t) (f := b) (p := a) (x := 1) (y := 0) (by omega) (by omega); rw [if_neg (by omega), e]; first | (rw [if_pos h_107]; rfl) | (rw [if_neg (by rw [h_107]; decide)]; rfl)) | (have e := kHM (V := V) (t := t) (f := b) (p := a) (x := 1) (y := 1) (by omega) (by omega); rw [if_neg (by omega), e]; first | (rw [if_pos h_107]; rfl) | (rw [if_neg (by rw [h_107]; decide)]; rfl))
              · rfl
            · refine pw_iload hX rfl dX2_giver_110 (q := 112) rfl ?_
              refine pw_goto hX (tgt := 116) dX2_giver_112 (by decide) ?_
              refine pw_ireturn hX dX2_giver_116 ⟨_, rfl, rfl⟩ ⟨congrArg (fun z => some (Value.int z)) ?_, ?_⟩
              · rw [kGv, if_neg h_28]; first | (exfalso; omega) | (have e := kHM (V := V) (t := t) (f := a) (p := b) (x := 0) (y := 0) (by omega) (by omega); rw [if_pos (by omega), e]; first | (rw [if_pos h_107]; rfl) | (rw [if_neg (by rw [h_107]; decide)]; rfl)) | (have e := kHM (V := V) (t := t) (f := a) (p := b) (x := 0) (y := 1) (by omega) (by omega); rw [if_pos (by omega), e]; first | (rw [if_pos h_107]; rfl) | (rw [if_neg (by rw [h_107]; decide)]; rfl)) | (have e := kHM (V := V) (t := t) (f := a) (p := b) (x := 1) (y := 0) (by omega) (by omega); rw [if_pos (by omega), e]; first | (rw [if_pos h_107]; rfl) | (rw [if_neg (by rw [h_107]; decide)]; rfl)) | (have e := kHM (V := V) (t := t) (f := a) (p := b) (x := 1) (y := 1) (by omega) (by omega); rw [if_pos (by omega), e]; first | (rw [if_pos h_107]; rfl) | (rw [if_neg (by rw [h_107]; decide)]; rfl)) | (have e := kHM (V := V) (t := t) (f := b) (p := a) (x := 0) (y := 0) (by omega) (by omega); rw [if_neg (by omega), e]; first | (rw [if_pos h_107]; rfl) | (rw [if_neg (by rw [h_107]; decide)]; rfl)) | (have e := kHM (V := V) (t := t) (f := b) (p := a) (x := 0) (y := 1) (by omega) (by omega); rw [if_neg (by omega), e]; first | (rw [if_pos h_107]; rfl) | (rw [if_neg (by rw [h_107]; decide)]; rfl)) | (have e := kHM (V := V) (t := t) (f := b) (p := a) (x := 1) (y := 0) (by omega) (by omega); rw [if_neg (by omega), e]; first | (rw [if_pos h_107]; rfl) | (rw [if_neg (by rw [h_107]; decide)]; rfl)) | (have e := kHM (V := V) (t := t) (f := b) (p := a) (x := 1) (y := 1) (by omega) (by omega); rw [if_neg (by omega), e]; first | (rw [if_pos h_107]; rfl) | (rw [if_neg (by rw [h_107]; decide)]; rfl))
              · rfl
        · refine pw_iconst hX (k := 1) rfl (by decide) dX2_giver_87 (q := 88) rfl ?_
          refine pw_goto hX (tgt := 92) dX2_giver_88 (by decide) ?_
          refine pw_iload hX rfl dX2_giver_92 (q := 94) rfl ?_
          refine pw_iload hX rfl dX2_giver_94 (q := 96) rfl ?_
          refine pw_icmpN_le hX (by first | omega | (have h9 := bV84 hV (show 5 ≤ 5 ∧ 5 ≤ 10 by decide) (show a * 12 + t < 84 by omega); omega) | (have h9 := bV84 hV (show 5 ≤ 5 ∧ 5 ≤ 10 by decide) (show b * 12 + t < 84 by omega); omega) | first | omega | exact bV_0 hV | exact bV7 hV (by decide) (by omega) | exact bV84 hV (by decide) (by omega) | exact bV12 hV (by omega) | exact bV_1 hV | exact bV_2 hV) (by first | omega | (have h9 := bV84 hV (show 5 ≤ 5 ∧ 5 ≤ 10 by decide) (show a * 12 + t < 84 by omega); omega) | (have h9 := bV84 hV (show 5 ≤ 5 ∧ 5 ≤ 10 by decide) (show b * 12 + t < 84 by omega); omega) | first | omega | exact bV_0 hV | exact bV7 hV (by decide) (by omega) | exact bV84 hV (by decide) (by omega) | exact bV12 hV (by omega) | exact bV_1 hV | exact bV_2 hV) (tgt := 103) dX2_giver_96 (q := 99) rfl (by decide) (fun h_96 => ?_) (fun h_96 => ?_)
          · refine pw_iconst hX (k := 0) rfl (by decide) dX2_giver_103 (q := 104) rfl ?_
            refine pw_csI3 hX dX2_giver_104 (q := 107) rfl mi_X2_mayBeHanded ml_X2_147 ⟨rfl, rfl, by decide, by decide⟩ rfl (Nat.le_of_ble_eq_true rfl) (c_X2_mayBeHanded (by exact bV84 hV (by decide) (by omega)) (by decide) (by decide)) ?_
            refine pw_ifB_eq hX (tgt := 115) dX2_giver_107 (q := 110) rfl (by decide) (fun h_107 => ?_) (fun h_107 => ?_)
            · refine pw_iconstm hX dX2_giver_115 (q := 116) rfl ?_
              refine pw_ireturn hX dX2_giver_116 ⟨_, rfl, rfl⟩ ⟨congrArg (fun z => some (Value.int z)) ?_, ?_⟩
              · rw [kGv, if_neg h_28]; first | (exfalso; omega) | (have e := kHM (V := V) (t := t) (f := a) (p := b) (x := 0) (y := 0) (by omega) (by omega); rw [if_pos (by omega), e]; first | (rw [if_pos h_107]; rfl) | (rw [if_neg (by rw [h_107]; decide)]; rfl)) | (have e := kHM (V := V) (t := t) (f := a) (p := b) (x := 0) (y := 1) (by omega) (by omega); rw [if_pos (by omega), e]; first | (rw [if_pos h_107]; rfl) | (rw [if_neg (by rw [h_107]; decide)]; rfl)) | (have e := kHM (V := V) (t := t) (f := a) (p := b) (x := 1) (y := 0) (by omega) (by omega); rw [if_pos (by omega), e]; first | (rw [if_pos h_107]; rfl) | (rw [if_neg (by rw [h_107]; decide)]; rfl)) | (have e := kHM (V := V) (t := t) (f := a) (p := b) (x := 1) (y := 1) (by omega) (by omega); rw [if_pos (by omega), e]; first | (rw [if_pos h_107]; rfl) | (rw [if_neg (by rw [h_107]; decide)]; rfl)) | (have e := kHM (V := V) (t := t) (f := b) (p := a) (x := 0) (y := 0) (by omega) (by omega); rw [if_neg (by omega), e]; first | (rw [if_pos h_107]; rfl) | (rw [if_neg (by rw [h_107]; decide)]; rfl)) | (have e := kHM (V := V) (t := t) (f := b) (p := a) (x := 0) (y := 1) (by omega) (by omega); rw [if_neg (by omega), e]; first | (rw [if_pos h_107]; rfl) | (rw [if_neg (by rw [h_107]; decide)]; rfl)) | (have e := kHM (V := V) (t := t) (f := b) (p := a) (x := 1) (y := 0) (by omega) (by omega); rw [if_neg (by omega), e]; first | (rw [if_pos h_107]; rfl) | (rw [if_neg (by rw [h_107]; decide)]; rfl)) | (have e := kHM (V := V) (t := t) (f := b) (p := a) (x := 1) (y := 1) (by omega) (by omega); rw [if_neg (by omega), e]; first | (rw [if_pos h_107]; rfl) | (rw [if_neg (by rw [h_107]; decide)]; rfl))
              · rfl
            · refine pw_iload hX rfl dX2_giver_110 (q := 112) rfl ?_
              refine pw_goto hX (tgt := 116) dX2_giver_112 (by decide) ?_
              refine pw_ireturn hX dX2_giver_116 ⟨_, rfl, rfl⟩ ⟨congrArg (fun z => some (Value.int z)) ?_, ?_⟩
              · rw [kGv, if_neg h_28]; first | (exfalso; omega) | (have e := kHM (V := V) (t := t) (f := a) (p := b) (x := 0) (y := 0) (by omega) (by omega); rw [if_pos (by omega), e]; first | (rw [if_pos h_107]; rfl) | (rw [if_neg (by rw [h_107]; decide)]; rfl)) | (have e := kHM (V := V) (t := t) (f := a) (p := b) (x := 0) (y := 1) (by omega) (by omega); rw [if_pos (by omega), e]; first | (rw [if_pos h_107]; rfl) | (rw [if_neg (by rw [h_107]; decide)]; rfl)) | (have e := kHM (V := V) (t := t) (f := a) (p := b) (x := 1) (y := 0) (by omega) (by omega); rw [if_pos (by omega), e]; first | (rw [if_pos h_107]; rfl) | (rw [if_neg (by rw [h_107]; decide)]; rfl)) | (have e := kHM (V := V) (t := t) (f := a) (p := b) (x := 1) (y := 1) (by omega) (by omega); rw [if_pos (by omega), e]; first | (rw [if_pos h_107]; rfl) | (rw [if_neg (by rw [h_107]; decide)]; rfl)) | (have e := kHM (V := V) (t := t) (f := b) (p := a) (x := 0) (y := 0) (by omega) (by omega); rw [if_neg (by omega), e]; first | (rw [if_pos h_107]; rfl) | (rw [if_neg (by rw [h_107]; decide)]; rfl)) | (have e := kHM (V := V) (t := t) (f := b) (p := a) (x := 0) (y := 1) (by omega) (by omega); rw [if_neg (by omega), e]; first | (rw [if_pos h_107]; rfl) | (rw [if_neg (by rw [h_107]; decide)]; rfl)) | (have e := kHM (V := V) (t := t) (f := b) (p := a) (x := 1) (y := 0) (by omega) (by omega); rw [if_neg (by omega), e]; first | (rw [if_pos h_107]; rfl) | (rw [if_neg (by rw [h_107]; decide)]; rfl)) | (have e := kHM (V := V) (t := t) (f := b) (p := a) (x := 1) (y := 1) (by omega) (by omega); rw [if_neg (by omega), e]; first | (rw [if_pos h_107]; rfl) | (rw [if_neg (by rw [h_107]; decide)]; rfl))
              · rfl
          · refine pw_iconst hX (k := 1) rfl (by decide) dX2_giver_99 (q := 100) rfl ?_
            refine pw_goto hX (tgt := 104) dX2_giver_100 (by decide) ?_
            refine pw_csI3 hX dX2_giver_104 (q := 107) rfl mi_X2_mayBeHanded ml_X2_147 ⟨rfl, rfl, by decide, by decide⟩ rfl (Nat.le_of_ble_eq_true rfl) (c_X2_mayBeHanded (by exact bV84 hV (by decide) (by omega)) (by decide) (by decide)) ?_
            refine pw_ifB_eq hX (tgt := 115) dX2_giver_107 (q := 110) rfl (by decide) (fun h_107 => ?_) (fun h_107 => ?_)
            · refine pw_iconstm hX dX2_giver_115 (q := 116) rfl ?_
              refine pw_ireturn hX dX2_giver_116 ⟨_, rfl, rfl⟩ ⟨congrArg (fun z => some (Value.int z)) ?_, ?_⟩
              · rw [kGv, if_neg h_28]; first | (exfalso; omega) | (have e := kHM (V := V) (t := t) (f := a) (p := b) (x := 0) (y := 0) (by omega) (by omega); rw [if_pos (by omega), e]; first | (rw [if_pos h_107]; rfl) | (rw [if_neg (by rw [h_107]; decide)]; rfl)) | (have e := kHM (V := V) (t := t) (f := a) (p := b) (x := 0) (y := 1) (by omega) (by omega); rw [if_pos (by omega), e]; first | (rw [if_pos h_107]; rfl) | (rw [if_neg (by rw [h_107]; decide)]; rfl)) | (have e := kHM (V := V) (t := t) (f := a) (p := b) (x := 1) (y := 0) (by omega) (by omega); rw [if_pos (by omega), e]; first | (rw [if_pos h_107]; rfl) | (rw [if_neg (by rw [h_107]; decide)]; rfl)) | (have e := kHM (V := V) (t := t) (f := a) (p := b) (x := 1) (y := 1) (by omega) (by omega); rw [if_pos (by omega), e]; first | (rw [if_pos h_107]; rfl) | (rw [if_neg (by rw [h_107]; decide)]; rfl)) | (have e := kHM (V := V) (t := t) (f := b) (p := a) (x := 0) (y := 0) (by omega) (by omega); rw [if_neg (by omega), e]; first | (rw [if_pos h_107]; rfl) | (rw [if_neg (by rw [h_107]; decide)]; rfl)) | (have e := kHM (V := V) (t := t) (f := b) (p := a) (x := 0) (y := 1) (by omega) (by omega); rw [if_neg (by omega), e]; first | (rw [if_pos h_107]; rfl) | (rw [if_neg (by rw [h_107]; decide)]; rfl)) | (have e := kHM (V := V) (t := t) (f := b) (p := a) (x := 1) (y := 0) (by omega) (by omega); rw [if_neg (by omega), e]; first | (rw [if_pos h_107]; rfl) | (rw [if_neg (by rw [h_107]; decide)]; rfl)) | (have e := kHM (V := V) (t := t) (f := b) (p := a) (x := 1) (y := 1) (by omega) (by omega); rw [if_neg (by omega), e]; first | (rw [if_pos h_107]; rfl) | (rw [if_neg (by rw [h_107]; decide)]; rfl))
              · rfl
            · refine pw_iload hX rfl dX2_giver_110 (q := 112) rfl ?_
              refine pw_goto hX (tgt := 116) dX2_giver_112 (by decide) ?_
              refine pw_ireturn hX dX2_giver_116 ⟨_, rfl, rfl⟩ ⟨congrArg (fun z => some (Value.int z)) ?_, ?_⟩
              · rw [kGv, if_neg h_28]; first | (exfalso; omega) | (have e := kHM (V := V) (t := t) (f := a) (p := b) (x := 0) (y := 0) (by omega) (by omega); rw [if_pos (by omega), e]; first | (rw [if_pos h_107]; rfl) | (rw [if_neg (by rw [h_107]; decide)]; rfl)) | (have e := kHM (V := V) (t := t) (f := a) (p := b) (x := 0) (y := 1) (by omega) (by omega); rw [if_pos (by omega), e]; first | (rw [if_pos h_107]; rfl) | (rw [if_neg (by rw [h_107]; decide)]; rfl)) | (have e := kHM (V := V) (t := t) (f := a) (p := b) (x := 1) (y := 0) (by omega) (by omega); rw [if_pos (by omega), e]; first | (rw [if_pos h_107]; rfl) | (rw [if_neg (by rw [h_107]; decide)]; rfl)) | (have e := kHM (V := V) (t := t) (f := a) (p := b) (x := 1) (y := 1) (by omega) (by omega); rw [if_pos (by omega), e]; first | (rw [if_pos h_107]; rfl) | (rw [if_neg (by rw [h_107]; decide)]; rfl)) | (have e := kHM (V := V) (t := t) (f := b) (p := a) (x := 0) (y := 0) (by omega) (by omega); rw [if_neg (by omega), e]; first | (rw [if_pos h_107]; rfl) | (rw [if_neg (by rw [h_107]; decide)]; rfl)) | (have e := kHM (V := V) (t := t) (f := b) (p := a) (x := 0) (y := 1) (by omega) (by omega); rw [if_neg (by omega), e]; first | (rw [if_pos h_107]; rfl) | (rw [if_neg (by rw [h_107]; decide)]; rfl)) | (have e := kHM (V := V) (t := t) (f := b) (p := a) (x := 1) (y := 0) (by omega) (by omega); rw [if_neg (by omega), e]; first | (rw [if_pos h_107]; rfl) | (rw [if_neg (by rw [h_107]; decide)]; rfl)) | (have e := kHM (V := V) (t := t) (f := b) (p := a) (x := 1) (y := 1) (by omega) (by omega); rw [if_neg (by omega), e]; first | (rw [if_pos h_107]; rfl) | (rw [if_neg (by rw [h_107]; decide)]; rfl))
              · rfl
  · refine pw_iconstm hX dX2_giver_31 (q := 32) rfl ?_
    refine pw_ireturn hX dX2_giver_32 ⟨_, rfl, rfl⟩ ⟨congrArg (fun z => some (Value.int z)) ?_, ?_⟩
    · rw [kGv, if_pos h_28]; rfl
    · rfl

