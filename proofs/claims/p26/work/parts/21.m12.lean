theorem nat_or30 {a b : Nat} (ha : a < 2 ^ 30) (hb : b < 2 ^ 30) : a ||| b < 2 ^ 30 := Nat.or_lt_two_pow ha hb
theorem p2_30 {a : Nat} (h : a < 7) : 2 ^ a < 2 ^ 30 := Nat.pow_lt_pow_right (by decide) (by omega)
theorem bV_H1 {V : Nat → Nat → Nat} (h : bV V) (t f p : Nat) : bV (kH1 V t f p) := by
  unfold kH1
  split
  · exact bV_v4 h _ _
  · exact h
theorem bV_H2 {V : Nat → Nat → Nat} (h : bV V) {f p : Nat} (hf : f < 84) : bV (kH2 V f p) := by
  unfold kH2
  have e := fun k h1 => h.2.1 k f (show 5 ≤ k from (by omega : 5 ≤ k ∧ k ≤ 10 → 5 ≤ k) h1) h1.2 hf
  exact bV_vU (bV_vU (bV_vU (bV_vU (bV_vU h (e 5 (by decide)) (by omega)) (e 6 (by decide)) (by omega)) (e 7 (by decide)) (by omega)) (e 8 (by decide)) (by omega)) (e 9 (by decide)) (by omega)
theorem bV_Hn {V : Nat → Nat → Nat} (h : bV V) {t f : Nat} (p : Nat) (ht : t < 12) (hf : f < 7) : bV (kHn V t f p) := bV_H2 (bV_H1 h _ _ _) (by omega)
theorem kBoth_lt {V : Nat → Nat → Nat} (h : bV V) {a b t : Nat} (ha : a < 7) (hb : b < 7) (ht : t < 12) : kBoth V a b t < 2 ^ 30 := nat_or30 (nat_or30 (nat_or30 (h.2.1 9 _ (by decide) (by decide) (by omega)) (h.2.1 9 _ (by decide) (by decide) (by omega))) (p2_30 ha)) (p2_30 hb)
theorem bV_Sh {V : Nat → Nat → Nat} (h : bV V) {a b t : Nat} (ha : a < 7) (hb : b < 7) (ht : t < 12) : bV (kSh V a b t) := by
  unfold kSh
  split
  · exact bV_vU (bV_vU h (kBoth_lt h ha hb ht) (by omega)) (kBoth_lt h ha hb ht) (by omega)
  · exact h
theorem kGv_ab {V : Nat → Nat → Nat} {a b t e : Nat} (h : kGv V a b t = e + 1) : e = a ∨ e = b := by
  unfold kGv at h
  (repeat' split at h) <;> omega
def kT0 (V : Nat → Nat → Nat) (a b : Nat) : Nat → Nat → Nat := vU (vU V 2 a (mx (V 2 a) (V 2 b))) 2 b (mx (V 2 a) (V 2 b))
def kSt (V : Nat → Nat → Nat) (a b t : Nat) : Nat → Nat → Nat := kSh (if kGv V a b t = 0 then V else kHn V t (kGv V a b t - 1) (if kGv V a b t - 1 = a then b else a)) a b t
def kTt (V : Nat → Nat → Nat) (a b : Nat) : Nat → (Nat → Nat → Nat) × Nat
  | 0 => (kT0 V a b, 0)
  | t + 1 => (kSt (kTt V a b t).1 a b t, (kTt V a b t).2 + if kGv (kTt V a b t).1 a b t = 0 then 0 else 1)
theorem kTt_s (V : Nat → Nat → Nat) (a b t : Nat) : kTt V a b (t + 1) = (kSt (kTt V a b t).1 a b t, (kTt V a b t).2 + if kGv (kTt V a b t).1 a b t = 0 then 0 else 1) := rfl
def kTk (V : Nat → Nat → Nat) (a b : Nat) : (Nat → Nat → Nat) × Nat := kTt V a b 12
theorem bV_St {V : Nat → Nat → Nat} (h : bV V) {a b t : Nat} (ha : a < 7) (hb : b < 7) (ht : t < 12) : bV (kSt V a b t) := by
  unfold kSt
  refine bV_Sh ?_ ha hb ht
  rcases hG : kGv V a b t with _ | e
  · rw [if_pos rfl]; exact h
  · rw [if_neg (by omega), Nat.add_sub_cancel]
    have := kGv_ab hG
    exact bV_Hn h _ ht (by omega)
theorem bV_Tt {V : Nat → Nat → Nat} (h : bV V) {a b : Nat} (ha : a < 7) (hb : b < 7) : ∀ t, t ≤ 12 → bV (kTt V a b t).1
  | 0, _ => bV_vU (bV_vU h (mx_lt (h.1 2 a (by decide) (by decide) ha) (h.1 2 b (by decide) (by decide) hb)) (by omega)) (mx_lt (h.1 2 a (by decide) (by decide) ha) (h.1 2 b (by decide) (by decide) hb)) (by omega)
  | t + 1, ht => by
    rw [kTt_s]
    exact bV_St (bV_Tt h ha hb t (by omega)) ha hb (by omega)
theorem bV_Tk {V : Nat → Nat → Nat} (h : bV V) {a b : Nat} (ha : a < 7) (hb : b < 7) : bV (kTk V a b).1 := bV_Tt h ha hb 12 (Nat.le_refl _)
theorem kTt_n (V : Nat → Nat → Nat) (a b : Nat) : ∀ t, (kTt V a b t).2 ≤ t
  | 0 => Nat.le_refl _
  | t + 1 => by
    have := kTt_n V a b t
    rw [kTt_s]
    show _ + _ ≤ t + 1
    split <;> omega
def kMeet (V : Nat → Nat → Nat) (v u : Int32) : (Nat → Nat → Nat) × Int32 := if kTwo V v u = true then (if V 1 (ix v) = 0 ∧ V 1 (ix u) = 0 then ((kTk V (ix v) (ix u)).1, nI (kTk V (ix v) (ix u)).2) else (V, -1000002)) else (V, -1000001)
theorem kTwo_of {V : Nat → Nat → Nat} {v u : Int32} (h0 : V 0 0 < 2 ^ 31) (h : kTwo V v u = true) : ∃ i j, i < V 0 0 ∧ j < V 0 0 ∧ i ≠ j ∧ v = nI i ∧ u = nI j ∧ hasN (V 0 0) v = true ∧ hasN (V 0 0) u = true := by
  unfold kTwo at h
  simp only [Bool.and_eq_true, decide_eq_true_eq] at h
  obtain ⟨h1, h2, h3⟩ := h
  obtain ⟨i, hi, rfl⟩ := hasN_of h0 h1
  obtain ⟨j, hj, rfl⟩ := hasN_of h0 h2
  exact ⟨i, j, hi, hj, fun z => h3 (by rw [z]), rfl, rfl, h1, h2⟩
def kSl (V : Nat → Nat → Nat) (v : Int32) : (Nat → Nat → Nat) × Int32 := if hasN (V 0 0) v = true then (if V 1 (ix v) = 0 then (vU (vU V 1 (ix v) 1) 3 (ix v) (V 0 1), nI (kMany (vU (vU V 1 (ix v) 1) 3 (ix v) (V 0 1)) 0)) else (V, -1000002)) else (V, -1000001)
def kWk (V : Nat → Nat → Nat) (v : Int32) : (Nat → Nat → Nat) × Int32 := if hasN (V 0 0) v = true then (if V 1 (ix v) = 1 then (vU V 1 (ix v) 0, nI (V 0 1) - nI (V 3 (ix v))) else (V, -1000002)) else (V, -1000001)
def kZ (V : Nat → Nat → Nat) (v n : Nat) : Nat → Nat → Nat := vA V 5 (fun j => if v * 12 ≤ j ∧ j < v * 12 + n then 0 else V 5 j)
theorem kZ_0 (V : Nat → Nat → Nat) (v : Nat) : kZ V v 0 = V := by
  unfold kZ
  rw [show (fun j => if v * 12 ≤ j ∧ j < v * 12 + 0 then 0 else V 5 j) = V 5 from funext fun j => if_neg (by omega), vA_id]
theorem kZ_s (V : Nat → Nat → Nat) (v n : Nat) : vU (kZ V v n) 5 (v * 12 + n) 0 = kZ V v (n + 1) := by
  unfold kZ vU
  rw [vA_vA, vA_s]
  refine congrArg (vA V 5) (funext fun j => ?_)
  unfold upN
  by_cases h : j = v * 12 + n
  · rw [if_pos h, if_pos (by omega)]
  · rw [if_neg h]
    dsimp only
    by_cases h2 : v * 12 ≤ j ∧ j < v * 12 + n
    · rw [if_pos h2, if_pos (by omega)]
    · rw [if_neg h2, if_neg (by omega)]
theorem bV_Z {V : Nat → Nat → Nat} (h : bV V) (v n : Nat) : bV (kZ V v n) := by
  obtain ⟨h1, h2, h3, h4, h5, h6⟩ := h
  refine ⟨fun b j a1 a2 a3 => ?_, fun b j a1 a2 a3 => ?_, h3, h4, h5, h6⟩
  · unfold kZ; rw [vA_n _ _ (by omega)]; exact h1 b j a1 a2 a3
  · unfold kZ
    by_cases hk : b = 5
    · subst hk
      rw [vA_s]
      split
      · decide
      · exact h2 5 j a1 a2 a3
    · rw [vA_n _ _ hk]; exact h2 b j a1 a2 a3
def kGo (V : Nat → Nat → Nat) (v : Nat) : Nat → Nat → Nat := kZ (vU V 1 v 2) v 12
def kLv (V : Nat → Nat → Nat) (v : Int32) : (Nat → Nat → Nat) × Int32 := if hasN (V 0 0) v = true then (if V 1 (ix v) = 2 then (V, -1000002) else (kGo V (ix v), nI (kMany (kGo V (ix v)) 0 + kMany (kGo V (ix v)) 1))) else (V, -1000001)
def kCw (V : Nat → Nat → Nat) (v : Int32) : (Nat → Nat → Nat) × Int32 := if inN 1 60 v = true then (vU V 0 2 (ix v), nI (V 0 2)) else (V, -1000001)
def kAdd (V : Nat → Nat → Nat) : (Nat → Nat → Nat) × Int32 := if V 0 0 < 7 then (vU V 0 0 (V 0 0 + 1), nI (V 0 0)) else (V, -1000003)
def kPres (V : Nat → Nat → Nat) : Nat := bits (fun v => !(decide (V 1 v = 2))) (V 0 0)
abbrev rm_X2_hand : Room := { frames := 1, cells := 0, slots := 0, locals := 21 }
set_option maxHeartbeats 800000 in
set_option maxRecDepth 20000 in
theorem c_X2_hand {l : Launch} {g : Geo} {w : WD} {V : Nat → Nat → Nat} {o : Nat} {t f p : Nat} (ho : o < 7) (hV : bV V) (ht : t < 12) (hf : f < 7) (hp : p < 7) : CtV l g yX2_hand cX2_hand 6 none rm_X2_hand [.ref (g_ad g o 0), .int (nI t), .int (nI f), .int (nI p)] (wO w o V) (wO w o (kHn V t f p)) := by
  refine ct_of mi_X2_hand.2.2.2.2.2 ⟨rfl, rfl⟩ (List.forall_mem_cons.mpr ⟨rfl, List.forall_mem_cons.mpr ⟨rfl, List.forall_mem_cons.mpr ⟨rfl, List.forall_mem_cons.mpr ⟨rfl, fun _ h => absurd h List.not_mem_nil⟩⟩⟩⟩) (Nat.le_of_ble_eq_true rfl) (fun P hX => ?_)
  replace hX : Gd l g RX2 cX2_hand rm_X2_hand 6 none _ _ P := hX
  show P (wO w o V) 0 [some (.ref (g_ad g o 0)), some (.int (nI t)), some (.int (nI f)), some (.int (nI p)), none, none] []
  refine pw_iload_n hX rfl dX2_hand_0 (q := 1) rfl ?_
  refine pw_iload_n hX rfl dX2_hand_1 (q := 2) rfl ?_
  refine pw_cnI2 hX dX2_hand_2 (q := 5) rfl mi_X3_place mn_X2_88 ⟨rfl, rfl, by decide, by decide⟩ rfl (Nat.le_of_ble_eq_true rfl) (c_X3_place) ?_
  refine pw_istore hX (by decide) dX2_hand_5 (q := 7) rfl ?_
  refine pw_iload_n hX rfl dX2_hand_7 (q := 8) rfl ?_
  refine pw_iload_n hX rfl dX2_hand_8 (q := 9) rfl ?_
  refine pw_cnI2 hX dX2_hand_9 (q := 12) rfl mi_X3_place mn_X2_88 ⟨rfl, rfl, by decide, by decide⟩ rfl (Nat.le_of_ble_eq_true rfl) (c_X3_place) ?_
  refine pw_istore hX (by decide) dX2_hand_12 (q := 14) rfl ?_
  refine pw_aload_n hX rfl dX2_hand_14 (q := 15) rfl ?_
  refine pw_iload hX rfl dX2_hand_15 (q := 17) rfl ?_
  refine pw_cvI1 hX dX2_hand_17 (q := 20) rfl mi_X2_isRumor ml_X2_92 (rcV ho) ⟨rfl, rfl, by decide, by decide⟩ rfl (Nat.le_of_ble_eq_true rfl) (c_X2_isRumor ho hV (by omega)) ?_
  refine pw_ifB_eq hX (tgt := 50) dX2_hand_20 (q := 23) rfl (by decide) (fun h_20 => ?_) (fun h_20 => ?_)
  · have e1 : kH1 V t f p = V := if_neg (fun z => by rw [h_20] at z; exact absurd z.1 (by decide))
    refine pw_aload_n hX rfl dX2_hand_50 (q := 51) rfl ?_
    refine pw_getVF hX ho 8 (by decide) fl_X2_37 rfl dX2_hand_51 (q := 54) rfl ?_
    refine pw_iload hX rfl dX2_hand_54 (q := 56) rfl ?_
    refine pw_aload_n hX rfl dX2_hand_56 (q := 57) rfl ?_
    refine pw_getVF hX ho 8 (by decide) fl_X2_37 rfl dX2_hand_57 (q := 60) rfl ?_
    refine pw_iload hX rfl dX2_hand_60 (q := 62) rfl ?_
    refine pw_ialdVF hX ho 5 (by decide) (show _ < 84 by omega) dX2_hand_62 (q := 63) rfl ?_
    refine pw_iastVF hX ho 5 (by decide) (show _ < 84 by omega) dX2_hand_63 (q := 64) rfl ?_
    refine pw_aload_n hX rfl dX2_hand_64 (q := 65) rfl ?_
    refine pw_getVF hX ho 9 (by decide) fl_X2_40 rfl dX2_hand_65 (q := 68) rfl ?_
    refine pw_iload hX rfl dX2_hand_68 (q := 70) rfl ?_
    refine pw_aload_n hX rfl dX2_hand_70 (q := 71) rfl ?_
    refine pw_getVF hX ho 9 (by decide) fl_X2_40 rfl dX2_hand_71 (q := 74) rfl ?_
    refine pw_iload hX rfl dX2_hand_74 (q := 76) rfl ?_
    refine pw_ialdVF hX ho 6 (by decide) (show _ < 84 by omega) dX2_hand_76 (q := 77) rfl ?_
    refine pw_iastVF hX ho 6 (by decide) (show _ < 84 by omega) dX2_hand_77 (q := 78) rfl ?_
    refine pw_aload_n hX rfl dX2_hand_78 (q := 79) rfl ?_
    refine pw_getVF hX ho 10 (by decide) fl_X2_43 rfl dX2_hand_79 (q := 82) rfl ?_
    refine pw_iload hX rfl dX2_hand_82 (q := 84) rfl ?_
    refine pw_aload_n hX rfl dX2_hand_84 (q := 85) rfl ?_
    refine pw_getVF hX ho 10 (by decide) fl_X2_43 rfl dX2_hand_85 (q := 88) rfl ?_
    refine pw_iload hX rfl dX2_hand_88 (q := 90) rfl ?_
    refine pw_ialdVF hX ho 7 (by decide) (show _ < 84 by omega) dX2_hand_90 (q := 91) rfl ?_
    refine pw_iastVF hX ho 7 (by decide) (show _ < 84 by omega) dX2_hand_91 (q := 92) rfl ?_
    refine pw_aload_n hX rfl dX2_hand_92 (q := 93) rfl ?_
    refine pw_getVF hX ho 11 (by decide) fl_X2_46 rfl dX2_hand_93 (q := 96) rfl ?_
    refine pw_iload hX rfl dX2_hand_96 (q := 98) rfl ?_
    refine pw_aload_n hX rfl dX2_hand_98 (q := 99) rfl ?_
    refine pw_getVF hX ho 11 (by decide) fl_X2_46 rfl dX2_hand_99 (q := 102) rfl ?_
    refine pw_iload hX rfl dX2_hand_102 (q := 104) rfl ?_
    refine pw_ialdVF hX ho 8 (by decide) (show _ < 84 by omega) dX2_hand_104 (q := 105) rfl ?_
    refine pw_iastVF hX ho 8 (by decide) (show _ < 84 by omega) dX2_hand_105 (q := 106) rfl ?_
    refine pw_aload_n hX rfl dX2_hand_106 (q := 107) rfl ?_
    refine pw_getVF hX ho 12 (by decide) fl_X2_49 rfl dX2_hand_107 (q := 110) rfl ?_
    refine pw_iload hX rfl dX2_hand_110 (q := 112) rfl ?_
    refine pw_aload_n hX rfl dX2_hand_112 (q := 113) rfl ?_
    refine pw_getVF hX ho 12 (by decide) fl_X2_49 rfl dX2_hand_113 (q := 116) rfl ?_
    refine pw_iload hX rfl dX2_hand_116 (q := 118) rfl ?_
    refine pw_ialdVF hX ho 9 (by decide) (show _ < 84 by omega) dX2_hand_118 (q := 119) rfl ?_
    refine pw_iastVF hX ho 9 (by decide) (show _ < 84 by omega) dX2_hand_119 (q := 120) rfl ?_
    refine pw_return hX dX2_hand_120 rfl ⟨rfl, ?_⟩
    rw [kHn, e1]; rfl
  · refine pw_aload_n hX rfl dX2_hand_23 (q := 24) rfl ?_
    refine pw_getVF hX ho 8 (by decide) fl_X2_37 rfl dX2_hand_24 (q := 27) rfl ?_
    refine pw_iload hX rfl dX2_hand_27 (q := 29) rfl ?_
    refine pw_ialdVF hX ho 5 (by decide) (show _ < 84 by omega) dX2_hand_29 (q := 30) rfl ?_
    refine pw_aload_n hX rfl dX2_hand_30 (q := 31) rfl ?_
    refine pw_getVF hX ho 13 (by decide) fl_X2_52 rfl dX2_hand_31 (q := 34) rfl ?_
    refine pw_iload hX rfl dX2_hand_34 (q := 36) rfl ?_
    refine pw_ialdVF hX ho 10 (by decide) (show _ < 84 by omega) dX2_hand_36 (q := 37) rfl ?_
    refine pw_icmpN_ge hX (by first | omega | exact bV_0 hV | exact bV7 hV (by decide) (by omega) | exact bV84 hV (by decide) (by omega) | exact bV12 hV (by omega) | exact bV_1 hV | exact bV_2 hV) (by first | omega | exact bV_0 hV | exact bV7 hV (by decide) (by omega) | exact bV84 hV (by decide) (by omega) | exact bV12 hV (by omega) | exact bV_1 hV | exact bV_2 hV) (tgt := 50) dX2_hand_37 (q := 40) rfl (by decide) (fun h_37 => ?_) (fun h_37 => ?_)
    · have e1 : kH1 V t f p = V := if_neg (fun z => by have := z.2; omega)
      refine pw_aload_n hX rfl dX2_hand_50 (q := 51) rfl ?_
      refine pw_getVF hX ho 8 (by decide) fl_X2_37 rfl dX2_hand_51 (q := 54) rfl ?_
      refine pw_iload hX rfl dX2_hand_54 (q := 56) rfl ?_
      refine pw_aload_n hX rfl dX2_hand_56 (q := 57) rfl ?_
      refine pw_getVF hX ho 8 (by decide) fl_X2_37 rfl dX2_hand_57 (q := 60) rfl ?_
      refine pw_iload hX rfl dX2_hand_60 (q := 62) rfl ?_
      refine pw_ialdVF hX ho 5 (by decide) (show _ < 84 by omega) dX2_hand_62 (q := 63) rfl ?_
      refine pw_iastVF hX ho 5 (by decide) (show _ < 84 by omega) dX2_hand_63 (q := 64) rfl ?_
      refine pw_aload_n hX rfl dX2_hand_64 (q := 65) rfl ?_
      refine pw_getVF hX ho 9 (by decide) fl_X2_40 rfl dX2_hand_65 (q := 68) rfl ?_
      refine pw_iload hX rfl dX2_hand_68 (q := 70) rfl ?_
      refine pw_aload_n hX rfl dX2_hand_70 (q := 71) rfl ?_
      refine pw_getVF hX ho 9 (by decide) fl_X2_40 rfl dX2_hand_71 (q := 74) rfl ?_
      refine pw_iload hX rfl dX2_hand_74 (q := 76) rfl ?_
      refine pw_ialdVF hX ho 6 (by decide) (show _ < 84 by omega) dX2_hand_76 (q := 77) rfl ?_
      refine pw_iastVF hX ho 6 (by decide) (show _ < 84 by omega) dX2_hand_77 (q := 78) rfl ?_
      refine pw_aload_n hX rfl dX2_hand_78 (q := 79) rfl ?_
      refine pw_getVF hX ho 10 (by decide) fl_X2_43 rfl dX2_hand_79 (q := 82) rfl ?_
      refine pw_iload hX rfl dX2_hand_82 (q := 84) rfl ?_
      refine pw_aload_n hX rfl dX2_hand_84 (q := 85) rfl ?_
      refine pw_getVF hX ho 10 (by decide) fl_X2_43 rfl dX2_hand_85 (q := 88) rfl ?_
      refine pw_iload hX rfl dX2_hand_88 (q := 90) rfl ?_
      refine pw_ialdVF hX ho 7 (by decide) (show _ < 84 by omega) dX2_hand_90 (q := 91) rfl ?_
      refine pw_iastVF hX ho 7 (by decide) (show _ < 84 by omega) dX2_hand_91 (q := 92) rfl ?_
      refine pw_aload_n hX rfl dX2_hand_92 (q := 93) rfl ?_
      refine pw_getVF hX ho 11 (by decide) fl_X2_46 rfl dX2_hand_93 (q := 96) rfl ?_
      refine pw_iload hX rfl dX2_hand_96 (q := 98) rfl ?_
      refine pw_aload_n hX rfl dX2_hand_98 (q := 99) rfl ?_
      refine pw_getVF hX ho 11 (by decide) fl_X2_46 rfl dX2_hand_99 (q := 102) rfl ?_
      refine pw_iload hX rfl dX2_hand_102 (q := 104) rfl ?_
      refine pw_ialdVF hX ho 8 (by decide) (show _ < 84 by omega) dX2_hand_104 (q := 105) rfl ?_
      refine pw_iastVF hX ho 8 (by decide) (show _ < 84 by omega) dX2_hand_105 (q := 106) rfl ?_
      refine pw_aload_n hX rfl dX2_hand_106 (q := 107) rfl ?_
      refine pw_getVF hX ho 12 (by decide) fl_X2_49 rfl dX2_hand_107 (q := 110) rfl ?_
      refine pw_iload hX rfl dX2_hand_110 (q := 112) rfl ?_
      refine pw_aload_n hX rfl dX2_hand_112 (q := 113) rfl ?_
      refine pw_getVF hX ho 12 (by decide) fl_X2_49 rfl dX2_hand_113 (q := 116) rfl ?_
      refine pw_iload hX rfl dX2_hand_116 (q := 118) rfl ?_
      refine pw_ialdVF hX ho 9 (by decide) (show _ < 84 by omega) dX2_hand_118 (q := 119) rfl ?_
      refine pw_iastVF hX ho 9 (by decide) (show _ < 84 by omega) dX2_hand_119 (q := 120) rfl ?_
      refine pw_return hX dX2_hand_120 rfl ⟨rfl, ?_⟩
      rw [kHn, e1]; rfl
    · refine pw_aload_n hX rfl dX2_hand_40 (q := 41) rfl ?_
      refine pw_getVF hX ho 7 (by decide) fl_X2_34 rfl dX2_hand_41 (q := 44) rfl ?_
      refine pw_iload_n hX rfl dX2_hand_44 (q := 45) rfl ?_
      refine pw_dup2 hX rfl rfl dX2_hand_45 (q := 46) rfl ?_
      refine pw_ialdVF hX ho 4 (by decide) (show _ < 7 by omega) dX2_hand_46 (q := 47) rfl ?_
      refine pw_iconst hX (k := 1) rfl (by decide) dX2_hand_47 (q := 48) rfl ?_
      refine pw_iaddN hX dX2_hand_48 (q := 49) rfl ?_
      refine pw_iastVF hX ho 4 (by decide) (show _ < 7 by omega) dX2_hand_49 (q := 50) rfl ?_
      have e1 : kH1 V t f p = vU V 4 p (V 4 p + 1) := if_pos ⟨h_20, h_37⟩
      refine pw_aload_n hX rfl dX2_hand_50 (q := 51) rfl ?_
      refine pw_getVF hX ho 8 (by decide) fl_X2_37 rfl dX2_hand_51 (q := 54) rfl ?_
      refine pw_iload hX rfl dX2_hand_54 (q := 56) rfl ?_
      refine pw_aload_n hX rfl dX2_hand_56 (q := 57) rfl ?_
      refine pw_getVF hX ho 8 (by decide) fl_X2_37 rfl dX2_hand_57 (q := 60) rfl ?_
      refine pw_iload hX rfl dX2_hand_60 (q := 62) rfl ?_
      refine pw_ialdVF hX ho 5 (by decide) (show _ < 84 by omega) dX2_hand_62 (q := 63) rfl ?_
      refine pw_iastVF hX ho 5 (by decide) (show _ < 84 by omega) dX2_hand_63 (q := 64) rfl ?_
      refine pw_aload_n hX rfl dX2_hand_64 (q := 65) rfl ?_
      refine pw_getVF hX ho 9 (by decide) fl_X2_40 rfl dX2_hand_65 (q := 68) rfl ?_
      refine pw_iload hX rfl dX2_hand_68 (q := 70) rfl ?_
      refine pw_aload_n hX rfl dX2_hand_70 (q := 71) rfl ?_
      refine pw_getVF hX ho 9 (by decide) fl_X2_40 rfl dX2_hand_71 (q := 74) rfl ?_
      refine pw_iload hX rfl dX2_hand_74 (q := 76) rfl ?_
      refine pw_ialdVF hX ho 6 (by decide) (show _ < 84 by omega) dX2_hand_76 (q := 77) rfl ?_
      refine pw_iastVF hX ho 6 (by decide) (show _ < 84 by omega) dX2_hand_77 (q := 78) rfl ?_
      refine pw_aload_n hX rfl dX2_hand_78 (q := 79) rfl ?_
      refine pw_getVF hX ho 10 (by decide) fl_X2_43 rfl dX2_hand_79 (q := 82) rfl ?_
      refine pw_iload hX rfl dX2_hand_82 (q := 84) rfl ?_
      refine pw_aload_n hX rfl dX2_hand_84 (q := 85) rfl ?_
      refine pw_getVF hX ho 10 (by decide) fl_X2_43 rfl dX2_hand_85 (q := 88) rfl ?_
      refine pw_iload hX rfl dX2_hand_88 (q := 90) rfl ?_
      refine pw_ialdVF hX ho 7 (by decide) (show _ < 84 by omega) dX2_hand_90 (q := 91) rfl ?_
      refine pw_iastVF hX ho 7 (by decide) (show _ < 84 by omega) dX2_hand_91 (q := 92) rfl ?_
      refine pw_aload_n hX rfl dX2_hand_92 (q := 93) rfl ?_
      refine pw_getVF hX ho 11 (by decide) fl_X2_46 rfl dX2_hand_93 (q := 96) rfl ?_
      refine pw_iload hX rfl dX2_hand_96 (q := 98) rfl ?_
      refine pw_aload_n hX rfl dX2_hand_98 (q := 99) rfl ?_
      refine pw_getVF hX ho 11 (by decide) fl_X2_46 rfl dX2_hand_99 (q := 102) rfl ?_
      refine pw_iload hX rfl dX2_hand_102 (q := 104) rfl ?_
      refine pw_ialdVF hX ho 8 (by decide) (show _ < 84 by omega) dX2_hand_104 (q := 105) rfl ?_
      refine pw_iastVF hX ho 8 (by decide) (show _ < 84 by omega) dX2_hand_105 (q := 106) rfl ?_
      refine pw_aload_n hX rfl dX2_hand_106 (q := 107) rfl ?_
      refine pw_getVF hX ho 12 (by decide) fl_X2_49 rfl dX2_hand_107 (q := 110) rfl ?_
      refine pw_iload hX rfl dX2_hand_110 (q := 112) rfl ?_
      refine pw_aload_n hX rfl dX2_hand_112 (q := 113) rfl ?_
      refine pw_getVF hX ho 12 (by decide) fl_X2_49 rfl dX2_hand_113 (q := 116) rfl ?_
      refine pw_iload hX rfl dX2_hand_116 (q := 118) rfl ?_
      refine pw_ialdVF hX ho 9 (by decide) (show _ < 84 by omega) dX2_hand_118 (q := 119) rfl ?_
      refine pw_iastVF hX ho 9 (by decide) (show _ < 84 by omega) dX2_hand_119 (q := 120) rfl ?_
      refine pw_return hX dX2_hand_120 rfl ⟨rfl, ?_⟩
      rw [kHn, e1]; rfl
abbrev rm_X2_shareSight : Room := { frames := 1, cells := 0, slots := 0, locals := 21 }
set_option maxHeartbeats 800000 in
set_option maxRecDepth 20000 in
theorem c_X2_shareSight {l : Launch} {g : Geo} {w : WD} {V : Nat → Nat → Nat} {o : Nat} {a b t : Nat} (ho : o < 7) (hV : bV V) (ha : a < 7) (hb : b < 7) (ht : t < 12) : CtV l g yX2_shareSight cX2_shareSight 7 none rm_X2_shareSight [.ref (g_ad g o 0), .int (nI a), .int (nI b), .int (nI t)] (wO w o V) (wO w o (kSh V a b t)) := by
  refine ct_of mi_X2_shareSight.2.2.2.2.2 ⟨rfl, rfl⟩ (List.forall_mem_cons.mpr ⟨rfl, List.forall_mem_cons.mpr ⟨rfl, List.forall_mem_cons.mpr ⟨rfl, List.forall_mem_cons.mpr ⟨rfl, fun _ h => absurd h List.not_mem_nil⟩⟩⟩⟩) (Nat.le_of_ble_eq_true rfl) (fun P hX => ?_)
  replace hX : Gd l g RX2 cX2_shareSight rm_X2_shareSight 7 none _ _ P := hX
  show P (wO w o V) 0 [some (.ref (g_ad g o 0)), some (.int (nI a)), some (.int (nI b)), some (.int (nI t)), none, none, none] []
  refine pw_iload_n hX rfl dX2_shareSight_0 (q := 1) rfl ?_
  refine pw_iload_n hX rfl dX2_shareSight_1 (q := 2) rfl ?_
  refine pw_cnI2 hX dX2_shareSight_2 (q := 5) rfl mi_X3_place mn_X2_88 ⟨rfl, rfl, by decide, by decide⟩ rfl (Nat.le_of_ble_eq_true rfl) (c_X3_place) ?_
  refine pw_istore hX (by decide) dX2_shareSight_5 (q := 7) rfl ?_
  refine pw_iload_n hX rfl dX2_shareSight_7 (q := 8) rfl ?_
  refine pw_iload_n hX rfl dX2_shareSight_8 (q := 9) rfl ?_
  refine pw_cnI2 hX dX2_shareSight_9 (q := 12) rfl mi_X3_place mn_X2_88 ⟨rfl, rfl, by decide, by decide⟩ rfl (Nat.le_of_ble_eq_true rfl) (c_X3_place) ?_
  refine pw_istore hX (by decide) dX2_shareSight_12 (q := 14) rfl ?_
  refine pw_aload_n hX rfl dX2_shareSight_14 (q := 15) rfl ?_
  refine pw_iload hX rfl dX2_shareSight_15 (q := 17) rfl ?_
  refine pw_cvI1 hX dX2_shareSight_17 (q := 20) rfl mi_X2_isTomb ml_X2_95 (rcV ho) ⟨rfl, rfl, by decide, by decide⟩ rfl (Nat.le_of_ble_eq_true rfl) (c_X2_isTomb ho hV (by omega)) ?_
  refine pw_ifB_eq hX (tgt := 83) dX2_shareSight_20 (q := 23) rfl (by decide) (fun h_20 => ?_) (fun h_20 => ?_)
  · have e1 : kSh V a b t = V := if_neg (fun z => by rw [h_20] at z; exact absurd z.1 (by decide))
    refine pw_return hX dX2_shareSight_83 rfl ⟨rfl, ?_⟩
    first | (rw [e1]; done) | (rw [e1]; rfl)
  · refine pw_aload_n hX rfl dX2_shareSight_23 (q := 24) rfl ?_
    refine pw_getVF hX ho 8 (by decide) fl_X2_37 rfl dX2_shareSight_24 (q := 27) rfl ?_
    refine pw_iload hX rfl dX2_shareSight_27 (q := 29) rfl ?_
    refine pw_ialdVF hX ho 5 (by decide) (show _ < 84 by omega) dX2_shareSight_29 (q := 30) rfl ?_
    refine pw_aload_n hX rfl dX2_shareSight_30 (q := 31) rfl ?_
    refine pw_getVF hX ho 8 (by decide) fl_X2_37 rfl dX2_shareSight_31 (q := 34) rfl ?_
    refine pw_iload hX rfl dX2_shareSight_34 (q := 36) rfl ?_
    refine pw_ialdVF hX ho 5 (by decide) (show _ < 84 by omega) dX2_shareSight_36 (q := 37) rfl ?_
    refine pw_icmpN_ne hX (by first | omega | exact bV_0 hV | exact bV7 hV (by decide) (by omega) | exact bV84 hV (by decide) (by omega) | exact bV12 hV (by omega) | exact bV_1 hV | exact bV_2 hV) (by first | omega | exact bV_0 hV | exact bV7 hV (by decide) (by omega) | exact bV84 hV (by decide) (by omega) | exact bV12 hV (by omega) | exact bV_1 hV | exact bV_2 hV) (tgt := 83) dX2_shareSight_37 (q := 40) rfl (by decide) (fun h_37 => ?_) (fun h_37 => ?_)
    · have e1 : kSh V a b t = V := if_neg (fun z => h_37 z.2)
      refine pw_return hX dX2_shareSight_83 rfl ⟨rfl, ?_⟩
      first | (rw [e1]; done) | (rw [e1]; rfl)
    · refine pw_aload_n hX rfl dX2_shareSight_40 (q := 41) rfl ?_
      refine pw_getVF hX ho 12 (by decide) fl_X2_49 rfl dX2_shareSight_41 (q := 44) rfl ?_
      refine pw_iload hX rfl dX2_shareSight_44 (q := 46) rfl ?_
      refine pw_ialdVF hX ho 9 (by decide) (show _ < 84 by omega) dX2_shareSight_46 (q := 47) rfl ?_
      refine pw_aload_n hX rfl dX2_shareSight_47 (q := 48) rfl ?_
      refine pw_getVF hX ho 12 (by decide) fl_X2_49 rfl dX2_shareSight_48 (q := 51) rfl ?_
      refine pw_iload hX rfl dX2_shareSight_51 (q := 53) rfl ?_
      refine pw_ialdVF hX ho 9 (by decide) (show _ < 84 by omega) dX2_shareSight_53 (q := 54) rfl ?_
      refine pw_iorN hX dX2_shareSight_54 (q := 55) rfl ?_
      refine pw_iconst hX (k := 1) rfl (by decide) dX2_shareSight_55 (q := 56) rfl ?_
      refine pw_iload_n hX rfl dX2_shareSight_56 (q := 57) rfl ?_
      refine pw_ishl1 hX (by omega) dX2_shareSight_57 (q := 58) rfl ?_
      refine pw_iorN hX dX2_shareSight_58 (q := 59) rfl ?_
      refine pw_iconst hX (k := 1) rfl (by decide) dX2_shareSight_59 (q := 60) rfl ?_
      refine pw_iload_n hX rfl dX2_shareSight_60 (q := 61) rfl ?_
      refine pw_ishl1 hX (by omega) dX2_shareSight_61 (q := 62) rfl ?_
      refine pw_iorN hX dX2_shareSight_62 (q := 63) rfl ?_
      refine pw_istore hX (by decide) dX2_shareSight_63 (q := 65) rfl ?_
      refine pw_aload_n hX rfl dX2_shareSight_65 (q := 66) rfl ?_
      refine pw_getVF hX ho 12 (by decide) fl_X2_49 rfl dX2_shareSight_66 (q := 69) rfl ?_
      refine pw_iload hX rfl dX2_shareSight_69 (q := 71) rfl ?_
      refine pw_iload hX rfl dX2_shareSight_71 (q := 73) rfl ?_
      refine pw_iastVF hX ho 9 (by decide) (show _ < 84 by omega) dX2_shareSight_73 (q := 74) rfl ?_
      refine pw_aload_n hX rfl dX2_shareSight_74 (q := 75) rfl ?_
      refine pw_getVF hX ho 12 (by decide) fl_X2_49 rfl dX2_shareSight_75 (q := 78) rfl ?_
      refine pw_iload hX rfl dX2_shareSight_78 (q := 80) rfl ?_
      refine pw_iload hX rfl dX2_shareSight_80 (q := 82) rfl ?_
      refine pw_iastVF hX ho 9 (by decide) (show _ < 84 by omega) dX2_shareSight_82 (q := 83) rfl ?_
      have e1 : kSh V a b t = vU (vU V 9 (a * 12 + t) (kBoth V a b t)) 9 (b * 12 + t) (kBoth V a b t) := if_pos ⟨h_20, h_37⟩
      refine pw_return hX dX2_shareSight_83 rfl ⟨rfl, ?_⟩
      first | (rw [e1]; done) | (rw [e1]; rfl)
abbrev rm_X2_talk : Room := { frames := 3, cells := 0, slots := 0, locals := 72 }
set_option maxHeartbeats 800000 in
set_option maxRecDepth 20000 in
theorem c_X2_talk {l : Launch} {g : Geo} {w : WD} {V : Nat → Nat → Nat} {o : Nat} {a b : Nat} (ho : o < 7) (hV : bV V) (ha : a < 7) (hb : b < 7) : CtI l g yX2_talk cX2_talk 7 (some .int) rm_X2_talk [.ref (g_ad g o 0), .int (nI a), .int (nI b)] (wO w o V) (nI (kTk V a b).2) (wO w o (kTk V a b).1) := by
  refine ct_of mi_X2_talk.2.2.2.2.2 ⟨rfl, rfl⟩ (List.forall_mem_cons.mpr ⟨rfl, List.forall_mem_cons.mpr ⟨rfl, List.forall_mem_cons.mpr ⟨rfl, fun _ h => absurd h List.not_mem_nil⟩⟩⟩) (Nat.le_of_ble_eq_true rfl) (fun P hX => ?_)
  replace hX : Gd l g RX2 cX2_talk rm_X2_talk 7 (some .int) _ _ P := hX
  show P (wO w o V) 0 [some (.ref (g_ad g o 0)), some (.int (nI a)), some (.int (nI b)), none, none, none, none] []
  refine pw_aload_n hX rfl dX2_talk_0 (q := 1) rfl ?_
  refine pw_getVF hX ho 5 (by decide) fl_X2_28 rfl dX2_talk_1 (q := 4) rfl ?_
  refine pw_iload_n hX rfl dX2_talk_4 (q := 5) rfl ?_
  refine pw_ialdVF hX ho 2 (by decide) (show _ < 7 by omega) dX2_talk_5 (q := 6) rfl ?_
  refine pw_aload_n hX rfl dX2_talk_6 (q := 7) rfl ?_
  refine pw_getVF hX ho 5 (by decide) fl_X2_28 rfl dX2_talk_7 (q := 10) rfl ?_
  refine pw_iload_n hX rfl dX2_talk_10 (q := 11) rfl ?_
  refine pw_ialdVF hX ho 2 (by decide) (show _ < 7 by omega) dX2_talk_11 (q := 12) rfl ?_
  refine pw_max hX dX2_talk_12 (q := 15) rfl ml_X2_123 tw_max_s tw_max_i tw_max_c (by decide) (Nat.le_of_ble_eq_true rfl) ?_
  rw [n_max (bV7 hV (by decide) ha) (bV7 hV (by decide) hb)]
  refine pw_istore_n hX (by decide) dX2_talk_15 (q := 16) rfl ?_
  refine pw_aload_n hX rfl dX2_talk_16 (q := 17) rfl ?_
  refine pw_getVF hX ho 5 (by decide) fl_X2_28 rfl dX2_talk_17 (q := 20) rfl ?_
  refine pw_iload_n hX rfl dX2_talk_20 (q := 21) rfl ?_
  refine pw_iload_n hX rfl dX2_talk_21 (q := 22) rfl ?_
  refine pw_iastVF hX ho 2 (by decide) (show _ < 7 by omega) dX2_talk_22 (q := 23) rfl ?_
  refine pw_aload_n hX rfl dX2_talk_23 (q := 24) rfl ?_
  refine pw_getVF hX ho 5 (by decide) fl_X2_28 rfl dX2_talk_24 (q := 27) rfl ?_
  refine pw_iload_n hX rfl dX2_talk_27 (q := 28) rfl ?_
  refine pw_iload_n hX rfl dX2_talk_28 (q := 29) rfl ?_
  refine pw_iastVF hX ho 2 (by decide) (show _ < 7 by omega) dX2_talk_29 (q := 30) rfl ?_
  refine pw_iconst hX (k := 0) rfl (by decide) dX2_talk_30 (q := 31) rfl ?_
  refine pw_istore hX (by decide) dX2_talk_31 (q := 33) rfl ?_
  refine pw_iconst hX (k := 0) rfl (by decide) dX2_talk_33 (q := 34) rfl ?_
  refine pw_istore hX (by decide) dX2_talk_34 (q := 36) rfl ?_
  suffices L : ∀ t, t ≤ 12 → P (wO w o (kTt V a b t).1) 36 [some (.ref (g_ad g o 0)), some (.int (nI a)), some (.int (nI b)), some (.int (nI (mx (V 2 a) (V 2 b)))), some (.int (nI (kTt V a b t).2)), some (.int (nI t)), none] [] by exact L 0 (Nat.zero_le _)
  refine loopUp (fun t ht ih => ?_)
  have hVt := bV_Tt hV ha hb t ht
  refine pw_iload hX rfl dX2_talk_36 (q := 38) rfl ?_
  refine pw_bipush hX (k := 12) (by decide) dX2_talk_38 (q := 40) rfl ?_
  refine pw_icmpN_ge hX (by first | omega | exact bV_0 hV | exact bV7 hV (by decide) (by omega) | exact bV84 hV (by decide) (by omega) | exact bV12 hV (by omega) | exact bV_1 hV | exact bV_2 hV) (by first | omega | exact bV_0 hV | exact bV7 hV (by decide) (by omega) | exact bV84 hV (by decide) (by omega) | exact bV12 hV (by omega) | exact bV_1 hV | exact bV_2 hV) (tgt := 95) dX2_talk_40 (q := 43) rfl (by decide) (fun h_40 => ?_) (fun h_40 => ?_)
  · refine pw_iload hX rfl dX2_talk_95 (q := 97) rfl ?_
    refine pw_ireturn hX dX2_talk_97 ⟨_, rfl, rfl⟩ ⟨congrArg (fun z => some (Value.int z)) ?_, ?_⟩
    · rw [show t = 12 by omega]; rfl
    · rw [show t = 12 by omega]; rfl
  · refine pw_aload_n hX rfl dX2_talk_43 (q := 44) rfl ?_
    refine pw_iload_n hX rfl dX2_talk_44 (q := 45) rfl ?_
    refine pw_iload_n hX rfl dX2_talk_45 (q := 46) rfl ?_
    refine pw_iload hX rfl dX2_talk_46 (q := 48) rfl ?_
    refine pw_cvI3 hX dX2_talk_48 (q := 51) rfl mi_X2_giver ml_X2_134 (rcV ho) ⟨rfl, rfl, by decide, by decide⟩ rfl (Nat.le_of_ble_eq_true rfl) (c_X2_giver ho hVt ha hb (by omega)) ?_
    refine pw_istore hX (by decide) dX2_talk_51 (q := 53) rfl ?_
    rcases hG : kGv (kTt V a b t).1 a b t with _ | e
    · skip
      refine pw_iload hX rfl dX2_talk_53 (q := 55) rfl ?_
      refine pw_iconstm hX dX2_talk_55 (q := 56) rfl ?_
      refine pw_icmp_eq hX (tgt := 81) dX2_talk_56 (q := 59) rfl (by decide) (fun h_56 => ?_) (fun h_56 => ?_)
      · refine pw_aload_n hX rfl dX2_talk_81 (q := 82) rfl ?_
        refine pw_iload_n hX rfl dX2_talk_82 (q := 83) rfl ?_
        refine pw_iload_n hX rfl dX2_talk_83 (q := 84) rfl ?_
        refine pw_iload hX rfl dX2_talk_84 (q := 86) rfl ?_
        refine pw_cvV3 hX dX2_talk_86 (q := 89) rfl mi_X2_shareSight ml_X2_141 (rcV ho) ⟨rfl, rfl, by decide, by decide⟩ rfl (Nat.le_of_ble_eq_true rfl) (c_X2_shareSight ho hVt ha hb (by omega)) ?_
        refine pw_iinc hX rfl (by decide) (inc1 _) dX2_talk_89 (q := 92) rfl ?_
        refine pw_goto hX (tgt := 36) dX2_talk_92 (by decide) ?_
        refine pw_fg hX (lv' := [some (.ref (g_ad g o 0)), some (.int (nI a)), some (.int (nI b)), some (.int (nI (mx (V 2 a) (V 2 b)))), some (.int (nI ((kTt V a b t).2 + 0))), some (.int (nI (t + 1))), none]) (by repeat first | exact lle_nil | refine lle_cons ?_ | refine lle_none ?_) (pw_eq (congrArg (wO w o) ?_) ?_ rfl (ih (by omega)))
        · rw [kTt_s]; show _ = kSt _ a b t; rw [kSt, hG, if_pos rfl]
        · rw [kTt_s]; dsimp only; rw [hG, if_pos rfl]
      · exact absurd (show bv 0 = -1 by decide) h_56
    · rw [bv_s]
      have hab := kGv_ab hG
      refine pw_iload hX rfl dX2_talk_53 (q := 55) rfl ?_
      refine pw_iconstm hX dX2_talk_55 (q := 56) rfl ?_
      refine pw_icmp_eq hX (tgt := 81) dX2_talk_56 (q := 59) rfl (by decide) (fun h_56 => ?_) (fun h_56 => ?_)
      · exact absurd h_56 (nI_nn (by omega) (by decide))
      · refine pw_aload_n hX rfl dX2_talk_59 (q := 60) rfl ?_
        refine pw_iload hX rfl dX2_talk_60 (q := 62) rfl ?_
        refine pw_iload hX rfl dX2_talk_62 (q := 64) rfl ?_
        refine pw_iload hX rfl dX2_talk_64 (q := 66) rfl ?_
        refine pw_iload_n hX rfl dX2_talk_66 (q := 67) rfl ?_
        refine pw_icmpN_ne hX (by first | omega | exact bV_0 hV | exact bV7 hV (by decide) (by omega) | exact bV84 hV (by decide) (by omega) | exact bV12 hV (by omega) | exact bV_1 hV | exact bV_2 hV) (by first | omega | exact bV_0 hV | exact bV7 hV (by decide) (by omega) | exact bV84 hV (by decide) (by omega) | exact bV12 hV (by omega) | exact bV_1 hV | exact bV_2 hV) (tgt := 74) dX2_talk_67 (q := 70) rfl (by decide) (fun h_67 => ?_) (fun h_67 => ?_)
        · refine pw_iload_n hX rfl dX2_talk_74 (q := 75) rfl ?_
          refine pw_cvV3 hX dX2_talk_75 (q := 78) rfl mi_X2_hand ml_X2_138 (rcV ho) ⟨rfl, rfl, by decide, by decide⟩ rfl (Nat.le_of_ble_eq_true rfl) (c_X2_hand ho hVt (by omega) (by omega) (by omega)) ?_
          refine pw_iinc hX rfl (by decide) (inc1 _) dX2_talk_78 (q := 81) rfl ?_
          refine pw_aload_n hX rfl dX2_talk_81 (q := 82) rfl ?_
          refine pw_iload_n hX rfl dX2_talk_82 (q := 83) rfl ?_
          refine pw_iload_n hX rfl dX2_talk_83 (q := 84) rfl ?_
          refine pw_iload hX rfl dX2_talk_84 (q := 86) rfl ?_
          refine pw_cvV3 hX dX2_talk_86 (q := 89) rfl mi_X2_shareSight ml_X2_141 (rcV ho) ⟨rfl, rfl, by decide, by decide⟩ rfl (Nat.le_of_ble_eq_true rfl) (c_X2_shareSight ho (bV_Hn hVt _ (by omega) (by omega)) ha hb (by omega)) ?_
          refine pw_iinc hX rfl (by decide) (inc1 _) dX2_talk_89 (q := 92) rfl ?_
          refine pw_goto hX (tgt := 36) dX2_talk_92 (by decide) ?_
          refine pw_fg hX (lv' := [some (.ref (g_ad g o 0)), some (.int (nI a)), some (.int (nI b)), some (.int (nI (mx (V 2 a) (V 2 b)))), some (.int (nI ((kTt V a b t).2 + 1))), some (.int (nI (t + 1))), none]) (by repeat first | exact lle_nil | refine lle_cons ?_ | refine lle_none ?_) (pw_eq (congrArg (wO w o) ?_) ?_ rfl (ih (by omega)))
          · rw [kTt_s]; show _ = kSt _ a b t; rw [kSt, hG, if_neg (by omega), Nat.add_sub_cancel, if_neg h_67]
          · rw [kTt_s]; dsimp only; rw [hG, if_neg (by omega)]
        · refine pw_iload_n hX rfl dX2_talk_70 (q := 71) rfl ?_
          refine pw_goto hX (tgt := 75) dX2_talk_71 (by decide) ?_
          refine pw_cvV3 hX dX2_talk_75 (q := 78) rfl mi_X2_hand ml_X2_138 (rcV ho) ⟨rfl, rfl, by decide, by decide⟩ rfl (Nat.le_of_ble_eq_true rfl) (c_X2_hand ho hVt (by omega) (by omega) (by omega)) ?_
          refine pw_iinc hX rfl (by decide) (inc1 _) dX2_talk_78 (q := 81) rfl ?_
          refine pw_aload_n hX rfl dX2_talk_81 (q := 82) rfl ?_
          refine pw_iload_n hX rfl dX2_talk_82 (q := 83) rfl ?_
          refine pw_iload_n hX rfl dX2_talk_83 (q := 84) rfl ?_
          refine pw_iload hX rfl dX2_talk_84 (q := 86) rfl ?_
          refine pw_cvV3 hX dX2_talk_86 (q := 89) rfl mi_X2_shareSight ml_X2_141 (rcV ho) ⟨rfl, rfl, by decide, by decide⟩ rfl (Nat.le_of_ble_eq_true rfl) (c_X2_shareSight ho (bV_Hn hVt _ (by omega) (by omega)) ha hb (by omega)) ?_
          refine pw_iinc hX rfl (by decide) (inc1 _) dX2_talk_89 (q := 92) rfl ?_
          refine pw_goto hX (tgt := 36) dX2_talk_92 (by decide) ?_
          refine pw_fg hX (lv' := [some (.ref (g_ad g o 0)), some (.int (nI a)), some (.int (nI b)), some (.int (nI (mx (V 2 a) (V 2 b)))), some (.int (nI ((kTt V a b t).2 + 1))), some (.int (nI (t + 1))), none]) (by repeat first | exact lle_nil | refine lle_cons ?_ | refine lle_none ?_) (pw_eq (congrArg (wO w o) ?_) ?_ rfl (ih (by omega)))
          · rw [kTt_s]; show _ = kSt _ a b t; rw [kSt, hG, if_neg (by omega), Nat.add_sub_cancel, if_pos h_67]
          · rw [kTt_s]; dsimp only; rw [hG, if_neg (by omega)]
abbrev rm_X2_bringTogether : Room := { frames := 4, cells := 0, slots := 0, locals := 98 }
set_option maxHeartbeats 800000 in
set_option maxRecDepth 20000 in
theorem c_X2_bringTogether {l : Launch} {g : Geo} {w : WD} {V : Nat → Nat → Nat} {o : Nat} {v u : Int32} (ho : o < 7) (hV : bV V) : CtI l g yX2_bringTogether cX2_bringTogether 3 (some .int) rm_X2_bringTogether [.ref (g_ad g o 0), .int v, .int u] (wO w o V) ((kMeet V v u).2) (wO w o (kMeet V v u).1) := by
  refine ct_of mi_X2_bringTogether.2.2.2.2.2 ⟨rfl, rfl⟩ (List.forall_mem_cons.mpr ⟨rfl, List.forall_mem_cons.mpr ⟨rfl, List.forall_mem_cons.mpr ⟨rfl, fun _ h => absurd h List.not_mem_nil⟩⟩⟩) (Nat.le_of_ble_eq_true rfl) (fun P hX => ?_)
  replace hX : Gd l g RX2 cX2_bringTogether rm_X2_bringTogether 3 (some .int) _ _ P := hX
  show P (wO w o V) 0 [some (.ref (g_ad g o 0)), some (.int v), some (.int u)] []
  refine pw_aload_n hX rfl dX2_bringTogether_0 (q := 1) rfl ?_
  refine pw_iload_n hX rfl dX2_bringTogether_1 (q := 2) rfl ?_
  refine pw_iload_n hX rfl dX2_bringTogether_2 (q := 3) rfl ?_
  refine pw_cvI2 hX dX2_bringTogether_3 (q := 6) rfl mi_X2_areTwo ml_X2_128 (rcV ho) ⟨rfl, rfl, by decide, by decide⟩ rfl (Nat.le_of_ble_eq_true rfl) (c_X2_areTwo (by first | assumption | omega) (by first | assumption | omega)) ?_
  refine pw_ifB_ne hX (tgt := 12) dX2_bringTogether_6 (q := 9) rfl (by decide) (fun h_6 => ?_) (fun h_6 => ?_)
  · obtain ⟨i, j, hi, hj, hij, rfl, rfl, k1, k2⟩ := kTwo_of (bV_0 hV) h_6
    have h7 := hV.2.2.2.1
    have hx : ix (nI i) = i := ix_nI (by omega)
    have hxj : ix (nI j) = j := ix_nI (by omega)
    refine pw_aload_n hX rfl dX2_bringTogether_12 (q := 13) rfl ?_
    refine pw_iload_n hX rfl dX2_bringTogether_13 (q := 14) rfl ?_
    refine pw_cvI1 hX dX2_bringTogether_14 (q := 17) rfl mi_X2_isAwake ml_X2_74 (rcV ho) ⟨rfl, rfl, by decide, by decide⟩ rfl (Nat.le_of_ble_eq_true rfl) (c_X2_isAwake (by first | assumption | omega) (by first | assumption | omega)) ?_
    rw [kAw_n k1 hx]
    refine pw_ifB_eq hX (tgt := 28) dX2_bringTogether_17 (q := 20) rfl (by decide) (fun h_17 => ?_) (fun h_17 => ?_)
    · have h_17 := of_decide_eq_false h_17
      refine pw_ldc hX cn_X2_77 dX2_bringTogether_28 (q := 30) rfl ?_
      refine pw_ireturn hX dX2_bringTogether_30 ⟨_, rfl, rfl⟩ ⟨congrArg (fun z => some (Value.int z)) ?_, ?_⟩
      · rw [kMeet, if_pos h_6, hx, hxj, if_neg (show ¬ (V 1 i = 0 ∧ V 1 j = 0) by omega)]
      · rw [kMeet, if_pos h_6, hx, hxj, if_neg (show ¬ (V 1 i = 0 ∧ V 1 j = 0) by omega)]
    · have h_17 := of_decide_eq_true h_17
      refine pw_aload_n hX rfl dX2_bringTogether_20 (q := 21) rfl ?_
      refine pw_iload_n hX rfl dX2_bringTogether_21 (q := 22) rfl ?_
      refine pw_cvI1 hX dX2_bringTogether_22 (q := 25) rfl mi_X2_isAwake ml_X2_74 (rcV ho) ⟨rfl, rfl, by decide, by decide⟩ rfl (Nat.le_of_ble_eq_true rfl) (c_X2_isAwake (by first | assumption | omega) (by first | assumption | omega)) ?_
      rw [kAw_n k2 hxj]
      refine pw_ifB_ne hX (tgt := 31) dX2_bringTogether_25 (q := 28) rfl (by decide) (fun h_25 => ?_) (fun h_25 => ?_)
      · have h_25 := of_decide_eq_true h_25
        refine pw_aload_n hX rfl dX2_bringTogether_31 (q := 32) rfl ?_
        refine pw_iload_n hX rfl dX2_bringTogether_32 (q := 33) rfl ?_
        refine pw_iload_n hX rfl dX2_bringTogether_33 (q := 34) rfl ?_
        refine pw_cvI2 hX dX2_bringTogether_34 (q := 37) rfl mi_X2_talk ml_X2_131 (rcV ho) ⟨rfl, rfl, by decide, by decide⟩ rfl (Nat.le_of_ble_eq_true rfl) (c_X2_talk ho hV (by omega) (by omega)) ?_
        refine pw_ireturn hX dX2_bringTogether_37 ⟨_, rfl, rfl⟩ ⟨congrArg (fun z => some (Value.int z)) ?_, ?_⟩
        · rw [kMeet, if_pos h_6, hx, hxj, if_pos (show V 1 i = 0 ∧ V 1 j = 0 by omega)]
        · rw [kMeet, if_pos h_6, hx, hxj, if_pos (show V 1 i = 0 ∧ V 1 j = 0 by omega)]
      · have h_25 := of_decide_eq_false h_25
        refine pw_ldc hX cn_X2_77 dX2_bringTogether_28 (q := 30) rfl ?_
        refine pw_ireturn hX dX2_bringTogether_30 ⟨_, rfl, rfl⟩ ⟨congrArg (fun z => some (Value.int z)) ?_, ?_⟩
        · rw [kMeet, if_pos h_6, hx, hxj, if_neg (show ¬ (V 1 i = 0 ∧ V 1 j = 0) by omega)]
        · rw [kMeet, if_pos h_6, hx, hxj, if_neg (show ¬ (V 1 i = 0 ∧ V 1 j = 0) by omega)]
  · refine pw_ldc hX cn_X2_73 dX2_bringTogether_9 (q := 11) rfl ?_
    refine pw_ireturn hX dX2_bringTogether_11 ⟨_, rfl, rfl⟩ ⟨congrArg (fun z => some (Value.int z)) ?_, ?_⟩
    · rw [kMeet, if_neg (by rw [h_6]; decide)]
    · rw [kMeet, if_neg (by rw [h_6]; decide)]
abbrev rm_X2_fallAsleep : Room := { frames := 2, cells := 0, slots := 0, locals := 42 }
set_option maxHeartbeats 800000 in
set_option maxRecDepth 20000 in
theorem c_X2_fallAsleep {l : Launch} {g : Geo} {w : WD} {V : Nat → Nat → Nat} {o : Nat} {v : Int32} (ho : o < 7) (hV : bV V) : CtI l g yX2_fallAsleep cX2_fallAsleep 2 (some .int) rm_X2_fallAsleep [.ref (g_ad g o 0), .int v] (wO w o V) ((kSl V v).2) (wO w o (kSl V v).1) := by
  refine ct_of mi_X2_fallAsleep.2.2.2.2.2 ⟨rfl, rfl⟩ (List.forall_mem_cons.mpr ⟨rfl, List.forall_mem_cons.mpr ⟨rfl, fun _ h => absurd h List.not_mem_nil⟩⟩) (Nat.le_of_ble_eq_true rfl) (fun P hX => ?_)
  replace hX : Gd l g RX2 cX2_fallAsleep rm_X2_fallAsleep 2 (some .int) _ _ P := hX
  show P (wO w o V) 0 [some (.ref (g_ad g o 0)), some (.int v)] []
  refine pw_aload_n hX rfl dX2_fallAsleep_0 (q := 1) rfl ?_
  refine pw_iload_n hX rfl dX2_fallAsleep_1 (q := 2) rfl ?_
  refine pw_cvI1 hX dX2_fallAsleep_2 (q := 5) rfl mi_X2_has ml_X2_68 (rcV ho) ⟨rfl, rfl, by decide, by decide⟩ rfl (Nat.le_of_ble_eq_true rfl) (c_X2_has (by first | assumption | omega) (by first | assumption | omega)) ?_
  refine pw_ifB_ne hX (tgt := 11) dX2_fallAsleep_5 (q := 8) rfl (by decide) (fun h_5 => ?_) (fun h_5 => ?_)
  · obtain ⟨i, hi, rfl⟩ := hasN_of (bV_0 hV) h_5
    have hx : ix (nI i) = i := ix_nI (by have := hV.2.2.2.1; omega)
    have h7 := hV.2.2.2.1
    refine pw_aload_n hX rfl dX2_fallAsleep_11 (q := 12) rfl ?_
    refine pw_iload_n hX rfl dX2_fallAsleep_12 (q := 13) rfl ?_
    refine pw_cvI1 hX dX2_fallAsleep_13 (q := 16) rfl mi_X2_isAwake ml_X2_74 (rcV ho) ⟨rfl, rfl, by decide, by decide⟩ rfl (Nat.le_of_ble_eq_true rfl) (c_X2_isAwake (by first | assumption | omega) (by first | assumption | omega)) ?_
    rw [kAw_n h_5 hx]
    refine pw_ifB_ne hX (tgt := 22) dX2_fallAsleep_16 (q := 19) rfl (by decide) (fun h_16 => ?_) (fun h_16 => ?_)
    · have h_16 := of_decide_eq_true h_16
      refine pw_aload_n hX rfl dX2_fallAsleep_22 (q := 23) rfl ?_
      refine pw_getVF hX ho 4 (by decide) fl_X2_24 rfl dX2_fallAsleep_23 (q := 26) rfl ?_
      refine pw_iload_n hX rfl dX2_fallAsleep_26 (q := 27) rfl ?_
      refine pw_iconst hX (k := 1) rfl (by decide) dX2_fallAsleep_27 (q := 28) rfl ?_
      refine pw_iastVF hX ho 1 (by decide) (show _ < 7 by omega) dX2_fallAsleep_28 (q := 29) rfl ?_
      refine pw_aload_n hX rfl dX2_fallAsleep_29 (q := 30) rfl ?_
      refine pw_getVF hX ho 6 (by decide) fl_X2_31 rfl dX2_fallAsleep_30 (q := 33) rfl ?_
      refine pw_iload_n hX rfl dX2_fallAsleep_33 (q := 34) rfl ?_
      refine pw_aload_n hX rfl dX2_fallAsleep_34 (q := 35) rfl ?_
      refine pw_getVF hX ho 1 (by decide) fl_X2_15 rfl dX2_fallAsleep_35 (q := 38) rfl ?_
      rw [show vU V 1 i 1 0 1 = V 0 1 from rfl]
      refine pw_iastVF hX ho 3 (by decide) (show _ < 7 by omega) dX2_fallAsleep_38 (q := 39) rfl ?_
      refine pw_aload_n hX rfl dX2_fallAsleep_39 (q := 40) rfl ?_
      refine pw_iconst hX (k := 0) rfl (by decide) dX2_fallAsleep_40 (q := 41) rfl ?_
      refine pw_cvI1 hX dX2_fallAsleep_41 (q := 44) rfl mi_X2_howMany ml_X2_78 (rcV ho) ⟨rfl, rfl, by decide, by decide⟩ rfl (Nat.le_of_ble_eq_true rfl) (c_X2_howMany ho (bV_vU (bV_vU hV (by decide) (by omega)) hV.2.2.2.2.1 (by omega)) (by decide)) ?_
      refine pw_ireturn hX dX2_fallAsleep_44 ⟨_, rfl, rfl⟩ ⟨congrArg (fun z => some (Value.int z)) ?_, ?_⟩
      · rw [kSl, if_pos h_5, hx, if_pos h_16]
      · rw [kSl, if_pos h_5, hx, if_pos h_16]
    · have h_16 := of_decide_eq_false h_16
      refine pw_ldc hX cn_X2_77 dX2_fallAsleep_19 (q := 21) rfl ?_
      refine pw_ireturn hX dX2_fallAsleep_21 ⟨_, rfl, rfl⟩ ⟨congrArg (fun z => some (Value.int z)) ?_, ?_⟩
      · rw [kSl, if_pos h_5, hx, if_neg h_16]
      · rw [kSl, if_pos h_5, hx, if_neg h_16]
  · refine pw_ldc hX cn_X2_73 dX2_fallAsleep_8 (q := 10) rfl ?_
    refine pw_ireturn hX dX2_fallAsleep_10 ⟨_, rfl, rfl⟩ ⟨congrArg (fun z => some (Value.int z)) ?_, ?_⟩
    · rw [kSl, if_neg (by rw [h_5]; decide)]
    · rw [kSl, if_neg (by rw [h_5]; decide)]
abbrev rm_X2_wakeUp : Room := { frames := 2, cells := 0, slots := 0, locals := 42 }
set_option maxHeartbeats 800000 in
set_option maxRecDepth 20000 in
theorem c_X2_wakeUp {l : Launch} {g : Geo} {w : WD} {V : Nat → Nat → Nat} {o : Nat} {v : Int32} (ho : o < 7) (hV : bV V) : CtI l g yX2_wakeUp cX2_wakeUp 2 (some .int) rm_X2_wakeUp [.ref (g_ad g o 0), .int v] (wO w o V) ((kWk V v).2) (wO w o (kWk V v).1) := by
  refine ct_of mi_X2_wakeUp.2.2.2.2.2 ⟨rfl, rfl⟩ (List.forall_mem_cons.mpr ⟨rfl, List.forall_mem_cons.mpr ⟨rfl, fun _ h => absurd h List.not_mem_nil⟩⟩) (Nat.le_of_ble_eq_true rfl) (fun P hX => ?_)
  replace hX : Gd l g RX2 cX2_wakeUp rm_X2_wakeUp 2 (some .int) _ _ P := hX
  show P (wO w o V) 0 [some (.ref (g_ad g o 0)), some (.int v)] []
  refine pw_aload_n hX rfl dX2_wakeUp_0 (q := 1) rfl ?_
  refine pw_iload_n hX rfl dX2_wakeUp_1 (q := 2) rfl ?_
  refine pw_cvI1 hX dX2_wakeUp_2 (q := 5) rfl mi_X2_has ml_X2_68 (rcV ho) ⟨rfl, rfl, by decide, by decide⟩ rfl (Nat.le_of_ble_eq_true rfl) (c_X2_has (by first | assumption | omega) (by first | assumption | omega)) ?_
  refine pw_ifB_ne hX (tgt := 11) dX2_wakeUp_5 (q := 8) rfl (by decide) (fun h_5 => ?_) (fun h_5 => ?_)
  · obtain ⟨i, hi, rfl⟩ := hasN_of (bV_0 hV) h_5
    have hx : ix (nI i) = i := ix_nI (by have := hV.2.2.2.1; omega)
    have h7 := hV.2.2.2.1
    refine pw_aload_n hX rfl dX2_wakeUp_11 (q := 12) rfl ?_
    refine pw_iload_n hX rfl dX2_wakeUp_12 (q := 13) rfl ?_
    refine pw_cvI1 hX dX2_wakeUp_13 (q := 16) rfl mi_X2_isAsleep ml_X2_82 (rcV ho) ⟨rfl, rfl, by decide, by decide⟩ rfl (Nat.le_of_ble_eq_true rfl) (c_X2_isAsleep (by first | assumption | omega) (by first | assumption | omega)) ?_
    rw [kAs_n h_5 hx]
    refine pw_ifB_ne hX (tgt := 22) dX2_wakeUp_16 (q := 19) rfl (by decide) (fun h_16 => ?_) (fun h_16 => ?_)
    · have h_16 := of_decide_eq_true h_16
      refine pw_aload_n hX rfl dX2_wakeUp_22 (q := 23) rfl ?_
      refine pw_getVF hX ho 4 (by decide) fl_X2_24 rfl dX2_wakeUp_23 (q := 26) rfl ?_
      refine pw_iload_n hX rfl dX2_wakeUp_26 (q := 27) rfl ?_
      refine pw_iconst hX (k := 0) rfl (by decide) dX2_wakeUp_27 (q := 28) rfl ?_
      refine pw_iastVF hX ho 1 (by decide) (show _ < 7 by omega) dX2_wakeUp_28 (q := 29) rfl ?_
      refine pw_aload_n hX rfl dX2_wakeUp_29 (q := 30) rfl ?_
      refine pw_iload_n hX rfl dX2_wakeUp_30 (q := 31) rfl ?_
      refine pw_cvI1 hX dX2_wakeUp_31 (q := 34) rfl mi_X2_ticksAsleep ml_X2_85 (rcV ho) ⟨rfl, rfl, by decide, by decide⟩ rfl (Nat.le_of_ble_eq_true rfl) (c_X2_ticksAsleep ho (by omega)) ?_
      refine pw_ireturn hX dX2_wakeUp_34 ⟨_, rfl, rfl⟩ ⟨congrArg (fun z => some (Value.int z)) ?_, ?_⟩
      · rw [kWk, if_pos h_5, hx, if_pos h_16]; rfl
      · rw [kWk, if_pos h_5, hx, if_pos h_16]
    · have h_16 := of_decide_eq_false h_16
      refine pw_ldc hX cn_X2_77 dX2_wakeUp_19 (q := 21) rfl ?_
      refine pw_ireturn hX dX2_wakeUp_21 ⟨_, rfl, rfl⟩ ⟨congrArg (fun z => some (Value.int z)) ?_, ?_⟩
      · rw [kWk, if_pos h_5, hx, if_neg h_16]
      · rw [kWk, if_pos h_5, hx, if_neg h_16]
  · refine pw_ldc hX cn_X2_73 dX2_wakeUp_8 (q := 10) rfl ?_
    refine pw_ireturn hX dX2_wakeUp_10 ⟨_, rfl, rfl⟩ ⟨congrArg (fun z => some (Value.int z)) ?_, ?_⟩
    · rw [kWk, if_neg (by rw [h_5]; decide)]
    · rw [kWk, if_neg (by rw [h_5]; decide)]
abbrev rm_X2_addVillager : Room := { frames := 0, cells := 0, slots := 0, locals := 0 }
set_option maxHeartbeats 800000 in
set_option maxRecDepth 20000 in
theorem c_X2_addVillager {l : Launch} {g : Geo} {w : WD} {V : Nat → Nat → Nat} {o : Nat} (ho : o < 7) (hV : bV V) : CtI l g yX2_addVillager cX2_addVillager 1 (some .int) rm_X2_addVillager [.ref (g_ad g o 0)] (wO w o V) ((kAdd V).2) (wO w o (kAdd V).1) := by
  refine ct_of mi_X2_addVillager.2.2.2.2.2 ⟨rfl, rfl⟩ (List.forall_mem_cons.mpr ⟨rfl, fun _ h => absurd h List.not_mem_nil⟩) (Nat.le_of_ble_eq_true rfl) (fun P hX => ?_)
  replace hX : Gd l g RX2 cX2_addVillager rm_X2_addVillager 1 (some .int) _ _ P := hX
  show P (wO w o V) 0 [some (.ref (g_ad g o 0))] []
  refine pw_aload_n hX rfl dX2_addVillager_0 (q := 1) rfl ?_
  refine pw_getVF hX ho 0 (by decide) fl_X2_9 rfl dX2_addVillager_1 (q := 4) rfl ?_
  refine pw_bipush hX (k := 7) (by decide) dX2_addVillager_4 (q := 6) rfl ?_
  refine pw_icmpN_lt hX (by first | omega | exact bV_0 hV | exact bV7 hV (by decide) (by omega) | exact bV84 hV (by decide) (by omega) | exact bV12 hV (by omega) | exact bV_1 hV | exact bV_2 hV) (by first | omega | exact bV_0 hV | exact bV7 hV (by decide) (by omega) | exact bV84 hV (by decide) (by omega) | exact bV12 hV (by omega) | exact bV_1 hV | exact bV_2 hV) (tgt := 12) dX2_addVillager_6 (q := 9) rfl (by decide) (fun h_6 => ?_) (fun h_6 => ?_)
  · refine pw_aload_n hX rfl dX2_addVillager_12 (q := 13) rfl ?_
    refine pw_dup hX rfl dX2_addVillager_13 (q := 14) rfl ?_
    refine pw_getVF hX ho 0 (by decide) fl_X2_9 rfl dX2_addVillager_14 (q := 17) rfl ?_
    refine pw_iconst hX (k := 1) rfl (by decide) dX2_addVillager_17 (q := 18) rfl ?_
    refine pw_iaddN hX dX2_addVillager_18 (q := 19) rfl ?_
    refine pw_putVF hX ho 0 (by decide) fl_X2_9 dX2_addVillager_19 (q := 22) rfl ?_
    refine pw_aload_n hX rfl dX2_addVillager_22 (q := 23) rfl ?_
    refine pw_getVF hX ho 0 (by decide) fl_X2_9 rfl dX2_addVillager_23 (q := 26) rfl ?_
    rw [show vU V 0 0 (V 0 0 + 1) 0 0 = upN (V 0) 0 (V 0 0 + 1) 0 from rfl, upN_s]
    refine pw_iconst hX (k := 1) rfl (by decide) dX2_addVillager_26 (q := 27) rfl ?_
    refine pw_isubN hX (by first | assumption | omega) dX2_addVillager_27 (q := 28) rfl ?_
    refine pw_ireturn hX dX2_addVillager_28 ⟨_, rfl, rfl⟩ ⟨congrArg (fun z => some (Value.int z)) ?_, ?_⟩
    · rw [kAdd, if_pos h_6]; rfl
    · rw [kAdd, if_pos h_6]
  · refine pw_ldc hX cn_X2_72 dX2_addVillager_9 (q := 11) rfl ?_
    refine pw_ireturn hX dX2_addVillager_11 ⟨_, rfl, rfl⟩ ⟨congrArg (fun z => some (Value.int z)) ?_, ?_⟩
    · rw [kAdd, if_neg (by omega)]
    · rw [kAdd, if_neg (by omega)]
abbrev rm_X2_changeWatch : Room := { frames := 0, cells := 0, slots := 0, locals := 0 }
set_option maxHeartbeats 800000 in
set_option maxRecDepth 20000 in
theorem c_X2_changeWatch {l : Launch} {g : Geo} {w : WD} {V : Nat → Nat → Nat} {o : Nat} {v : Int32} (ho : o < 7) : CtI l g yX2_changeWatch cX2_changeWatch 3 (some .int) rm_X2_changeWatch [.ref (g_ad g o 0), .int v] (wO w o V) ((kCw V v).2) (wO w o (kCw V v).1) := by
  refine ct_of mi_X2_changeWatch.2.2.2.2.2 ⟨rfl, rfl⟩ (List.forall_mem_cons.mpr ⟨rfl, List.forall_mem_cons.mpr ⟨rfl, fun _ h => absurd h List.not_mem_nil⟩⟩) (Nat.le_of_ble_eq_true rfl) (fun P hX => ?_)
  replace hX : Gd l g RX2 cX2_changeWatch rm_X2_changeWatch 3 (some .int) _ _ P := hX
  show P (wO w o V) 0 [some (.ref (g_ad g o 0)), some (.int v), none] []
  refine pw_iload_n hX rfl dX2_changeWatch_0 (q := 1) rfl ?_
  refine pw_iconst hX (k := 1) rfl (by decide) dX2_changeWatch_1 (q := 2) rfl ?_
  refine pw_icmp_lt hX (tgt := 11) dX2_changeWatch_2 (q := 5) rfl (by decide) (fun h_2 => ?_) (fun h_2 => ?_)
  · have hz : inN 1 60 v = false := inN_lo (by decide) h_2
    refine pw_ldc hX cn_X2_73 dX2_changeWatch_11 (q := 13) rfl ?_
    refine pw_ireturn hX dX2_changeWatch_13 ⟨_, rfl, rfl⟩ ⟨congrArg (fun z => some (Value.int z)) ?_, ?_⟩
    · rw [kCw, if_neg (by rw [hz]; decide)]
    · rw [kCw, if_neg (by rw [hz]; decide)]
  · refine pw_iload_n hX rfl dX2_changeWatch_5 (q := 6) rfl ?_
    refine pw_bipush hX (k := 60) (by decide) dX2_changeWatch_6 (q := 8) rfl ?_
    refine pw_icmp_le hX (tgt := 14) dX2_changeWatch_8 (q := 11) rfl (by decide) (fun h_8 => ?_) (fun h_8 => ?_)
    · have hc := inN_ok (lo := 1) (hi := 60) (by decide) (by decide) h_2 (Int32.not_lt.mpr h_8)
      obtain ⟨x, hx1, hx2, rfl⟩ := inN_of (by decide) hc
      have hxx : ix (nI x) = x := ix_nI (by omega)
      refine pw_aload_n hX rfl dX2_changeWatch_14 (q := 15) rfl ?_
      refine pw_getVF hX ho 2 (by decide) fl_X2_18 rfl dX2_changeWatch_15 (q := 18) rfl ?_
      refine pw_istore_n hX (by decide) dX2_changeWatch_18 (q := 19) rfl ?_
      refine pw_aload_n hX rfl dX2_changeWatch_19 (q := 20) rfl ?_
      refine pw_iload_n hX rfl dX2_changeWatch_20 (q := 21) rfl ?_
      refine pw_putVF hX ho 2 (by decide) fl_X2_18 dX2_changeWatch_21 (q := 24) rfl ?_
      refine pw_iload_n hX rfl dX2_changeWatch_24 (q := 25) rfl ?_
      refine pw_ireturn hX dX2_changeWatch_25 ⟨_, rfl, rfl⟩ ⟨congrArg (fun z => some (Value.int z)) ?_, ?_⟩
      · rw [kCw, if_pos hc]
      · rw [kCw, if_pos hc, hxx]
    · have hz : inN 1 60 v = false := inN_hi (by decide) (Int32.not_le.mp h_8)
      refine pw_ldc hX cn_X2_73 dX2_changeWatch_11 (q := 13) rfl ?_
      refine pw_ireturn hX dX2_changeWatch_13 ⟨_, rfl, rfl⟩ ⟨congrArg (fun z => some (Value.int z)) ?_, ?_⟩
      · rw [kCw, if_neg (by rw [hz]; decide)]
      · rw [kCw, if_neg (by rw [hz]; decide)]
abbrev rm_X2_goAway : Room := { frames := 1, cells := 0, slots := 0, locals := 23 }
set_option maxHeartbeats 800000 in
set_option maxRecDepth 20000 in
theorem c_X2_goAway {l : Launch} {g : Geo} {w : WD} {V : Nat → Nat → Nat} {o : Nat} {v : Int32} (ho : o < 7) (hV : bV V) : CtI l g yX2_goAway cX2_goAway 3 (some .int) rm_X2_goAway [.ref (g_ad g o 0), .int v] (wO w o V) ((kLv V v).2) (wO w o (kLv V v).1) := by
  refine ct_of mi_X2_goAway.2.2.2.2.2 ⟨rfl, rfl⟩ (List.forall_mem_cons.mpr ⟨rfl, List.forall_mem_cons.mpr ⟨rfl, fun _ h => absurd h List.not_mem_nil⟩⟩) (Nat.le_of_ble_eq_true rfl) (fun P hX => ?_)
  replace hX : Gd l g RX2 cX2_goAway rm_X2_goAway 3 (some .int) _ _ P := hX
  show P (wO w o V) 0 [some (.ref (g_ad g o 0)), some (.int v), none] []
  refine pw_aload_n hX rfl dX2_goAway_0 (q := 1) rfl ?_
  refine pw_iload_n hX rfl dX2_goAway_1 (q := 2) rfl ?_
  refine pw_cvI1 hX dX2_goAway_2 (q := 5) rfl mi_X2_has ml_X2_68 (rcV ho) ⟨rfl, rfl, by decide, by decide⟩ rfl (Nat.le_of_ble_eq_true rfl) (c_X2_has (by first | assumption | omega) (by first | assumption | omega)) ?_
  refine pw_ifB_ne hX (tgt := 11) dX2_goAway_5 (q := 8) rfl (by decide) (fun h_5 => ?_) (fun h_5 => ?_)
  · obtain ⟨i, hi, rfl⟩ := hasN_of (bV_0 hV) h_5
    have hx : ix (nI i) = i := ix_nI (by have := hV.2.2.2.1; omega)
    have h7 := hV.2.2.2.1
    refine pw_aload_n hX rfl dX2_goAway_11 (q := 12) rfl ?_
    refine pw_getVF hX ho 4 (by decide) fl_X2_24 rfl dX2_goAway_12 (q := 15) rfl ?_
    refine pw_iload_n hX rfl dX2_goAway_15 (q := 16) rfl ?_
    refine pw_ialdVF hX ho 1 (by decide) (show _ < 7 by omega) dX2_goAway_16 (q := 17) rfl ?_
    refine pw_iconst hX (k := 2) rfl (by decide) dX2_goAway_17 (q := 18) rfl ?_
    refine pw_icmpN_ne hX (by first | omega | exact bV_0 hV | exact bV7 hV (by decide) (by omega) | exact bV84 hV (by decide) (by omega) | exact bV12 hV (by omega) | exact bV_1 hV | exact bV_2 hV) (by first | omega | exact bV_0 hV | exact bV7 hV (by decide) (by omega) | exact bV84 hV (by decide) (by omega) | exact bV12 hV (by omega) | exact bV_1 hV | exact bV_2 hV) (tgt := 24) dX2_goAway_18 (q := 21) rfl (by decide) (fun h_18 => ?_) (fun h_18 => ?_)
    · refine pw_aload_n hX rfl dX2_goAway_24 (q := 25) rfl ?_
      refine pw_getVF hX ho 4 (by decide) fl_X2_24 rfl dX2_goAway_25 (q := 28) rfl ?_
      refine pw_iload_n hX rfl dX2_goAway_28 (q := 29) rfl ?_
      refine pw_iconst hX (k := 2) rfl (by decide) dX2_goAway_29 (q := 30) rfl ?_
      refine pw_iastVF hX ho 1 (by decide) (show _ < 7 by omega) dX2_goAway_30 (q := 31) rfl ?_
      refine pw_iconst hX (k := 0) rfl (by decide) dX2_goAway_31 (q := 32) rfl ?_
      refine pw_istore_n hX (by decide) dX2_goAway_32 (q := 33) rfl ?_
      suffices L : ∀ t, t ≤ 12 → P (wO w o (kZ (vU V 1 i 2) i t)) 33 [some (.ref (g_ad g o 0)), some (.int (nI i)), some (.int (nI t))] [] by have h9 := L 0 (Nat.zero_le _); rw [kZ_0] at h9; exact h9
      refine loopUp (fun t ht ih => ?_)
      refine pw_iload_n hX rfl dX2_goAway_33 (q := 34) rfl ?_
      refine pw_bipush hX (k := 12) (by decide) dX2_goAway_34 (q := 36) rfl ?_
      refine pw_icmpN_ge hX (by first | omega | exact bV_0 hV | exact bV7 hV (by decide) (by omega) | exact bV84 hV (by decide) (by omega) | exact bV12 hV (by omega) | exact bV_1 hV | exact bV_2 hV) (by first | omega | exact bV_0 hV | exact bV7 hV (by decide) (by omega) | exact bV84 hV (by decide) (by omega) | exact bV12 hV (by omega) | exact bV_1 hV | exact bV_2 hV) (tgt := 56) dX2_goAway_36 (q := 39) rfl (by decide) (fun h_36 => ?_) (fun h_36 => ?_)
      · have e4 : t = 12 := by omega
        subst e4
        have hVz := bV_Z (bV_vU hV (show 2 < 2 ^ 30 by decide) (show ¬ (1 = 0 ∧ i = 0) by omega)) i 12
        refine pw_aload_n hX rfl dX2_goAway_56 (q := 57) rfl ?_
        refine pw_iconst hX (k := 0) rfl (by decide) dX2_goAway_57 (q := 58) rfl ?_
        refine pw_cvI1 hX dX2_goAway_58 (q := 61) rfl mi_X2_howMany ml_X2_78 (rcV ho) ⟨rfl, rfl, by decide, by decide⟩ rfl (Nat.le_of_ble_eq_true rfl) (c_X2_howMany ho hVz (by decide)) ?_
        refine pw_aload_n hX rfl dX2_goAway_61 (q := 62) rfl ?_
        refine pw_iconst hX (k := 1) rfl (by decide) dX2_goAway_62 (q := 63) rfl ?_
        refine pw_cvI1 hX dX2_goAway_63 (q := 66) rfl mi_X2_howMany ml_X2_78 (rcV ho) ⟨rfl, rfl, by decide, by decide⟩ rfl (Nat.le_of_ble_eq_true rfl) (c_X2_howMany ho hVz (by decide)) ?_
        refine pw_iaddN hX dX2_goAway_66 (q := 67) rfl ?_
        refine pw_ireturn hX dX2_goAway_67 ⟨_, rfl, rfl⟩ ⟨congrArg (fun z => some (Value.int z)) ?_, ?_⟩
        · rw [kLv, if_pos h_5, hx, if_neg h_18]; rfl
        · rw [kLv, if_pos h_5, hx, if_neg h_18]; rfl
      · refine pw_aload_n hX rfl dX2_goAway_39 (q := 40) rfl ?_
        refine pw_getVF hX ho 8 (by decide) fl_X2_37 rfl dX2_goAway_40 (q := 43) rfl ?_
        refine pw_iload_n hX rfl dX2_goAway_43 (q := 44) rfl ?_
        refine pw_iload_n hX rfl dX2_goAway_44 (q := 45) rfl ?_
        refine pw_cnI2 hX dX2_goAway_45 (q := 48) rfl mi_X3_place mn_X2_88 ⟨rfl, rfl, by decide, by decide⟩ rfl (Nat.le_of_ble_eq_true rfl) (c_X3_place) ?_
        refine pw_iconst hX (k := 0) rfl (by decide) dX2_goAway_48 (q := 49) rfl ?_
        refine pw_iastVF hX ho 5 (by decide) (show _ < 84 by omega) dX2_goAway_49 (q := 50) rfl ?_
        refine pw_iinc hX rfl (by decide) (inc1 _) dX2_goAway_50 (q := 53) rfl ?_
        refine pw_goto hX (tgt := 33) dX2_goAway_53 (by decide) ?_
        exact pw_eq (congrArg (wO w o) (kZ_s _ _ _)) rfl rfl (ih (by omega))
    · refine pw_ldc hX cn_X2_77 dX2_goAway_21 (q := 23) rfl ?_
      refine pw_ireturn hX dX2_goAway_23 ⟨_, rfl, rfl⟩ ⟨congrArg (fun z => some (Value.int z)) ?_, ?_⟩
      · rw [kLv, if_pos h_5, hx, if_pos h_18]
      · rw [kLv, if_pos h_5, hx, if_pos h_18]
  · refine pw_ldc hX cn_X2_73 dX2_goAway_8 (q := 10) rfl ?_
    refine pw_ireturn hX dX2_goAway_10 ⟨_, rfl, rfl⟩ ⟨congrArg (fun z => some (Value.int z)) ?_, ?_⟩
    · rw [kLv, if_neg (by rw [h_5]; decide)]
    · rw [kLv, if_neg (by rw [h_5]; decide)]
abbrev rm_X2_present : Room := { frames := 0, cells := 0, slots := 0, locals := 0 }
set_option maxHeartbeats 800000 in
set_option maxRecDepth 20000 in
theorem c_X2_present {l : Launch} {g : Geo} {w : WD} {V : Nat → Nat → Nat} {o : Nat} (ho : o < 7) (hV : bV V) : CtI l g yX2_present cX2_present 3 (some .int) rm_X2_present [.ref (g_ad g o 0)] (wO w o V) (nI (kPres V)) (wO w o V) := by
  refine ct_of mi_X2_present.2.2.2.2.2 ⟨rfl, rfl⟩ (List.forall_mem_cons.mpr ⟨rfl, fun _ h => absurd h List.not_mem_nil⟩) (Nat.le_of_ble_eq_true rfl) (fun P hX => ?_)
  replace hX : Gd l g RX2 cX2_present rm_X2_present 3 (some .int) _ _ P := hX
  show P (wO w o V) 0 [some (.ref (g_ad g o 0)), none, none] []
  have h7 := hV.2.2.2.1
  refine pw_iconst hX (k := 0) rfl (by decide) dX2_present_0 (q := 1) rfl ?_
  refine pw_istore_n hX (by decide) dX2_present_1 (q := 2) rfl ?_
  refine pw_iconst hX (k := 0) rfl (by decide) dX2_present_2 (q := 3) rfl ?_
  refine pw_istore_n hX (by decide) dX2_present_3 (q := 4) rfl ?_
  suffices L : ∀ v, v ≤ V 0 0 → P (wO w o V) 4 [some (.ref (g_ad g o 0)), some (.int (nI (bits (fun v => !(decide (V 1 v = 2))) v))), some (.int (nI v))] [] by exact L 0 (Nat.zero_le _)
  refine loopUp (fun v hv ih => ?_)
  refine pw_iload_n hX rfl dX2_present_4 (q := 5) rfl ?_
  refine pw_aload_n hX rfl dX2_present_5 (q := 6) rfl ?_
  refine pw_getVF hX ho 0 (by decide) fl_X2_9 rfl dX2_present_6 (q := 9) rfl ?_
  refine pw_icmpN_ge hX (by first | omega | exact bV_0 hV | exact bV7 hV (by decide) (by omega) | exact bV84 hV (by decide) (by omega) | exact bV12 hV (by omega) | exact bV_1 hV | exact bV_2 hV) (by first | omega | exact bV_0 hV | exact bV7 hV (by decide) (by omega) | exact bV84 hV (by decide) (by omega) | exact bV12 hV (by omega) | exact bV_1 hV | exact bV_2 hV) (tgt := 34) dX2_present_9 (q := 12) rfl (by decide) (fun h_9 => ?_) (fun h_9 => ?_)
  · refine pw_iload_n hX rfl dX2_present_34 (q := 35) rfl ?_
    refine pw_ireturn hX dX2_present_35 ⟨_, rfl, rfl⟩ ⟨congrArg (fun z => some (Value.int z)) ?_, ?_⟩
    · rw [show v = V 0 0 by omega]; rfl
    · rfl
  · refine pw_aload_n hX rfl dX2_present_12 (q := 13) rfl ?_
    refine pw_getVF hX ho 4 (by decide) fl_X2_24 rfl dX2_present_13 (q := 16) rfl ?_
    refine pw_iload_n hX rfl dX2_present_16 (q := 17) rfl ?_
    refine pw_ialdVF hX ho 1 (by decide) (show _ < 7 by omega) dX2_present_17 (q := 18) rfl ?_
    refine pw_iconst hX (k := 2) rfl (by decide) dX2_present_18 (q := 19) rfl ?_
    refine pw_icmpN_eq hX (by first | omega | exact bV_0 hV | exact bV7 hV (by decide) (by omega) | exact bV84 hV (by decide) (by omega) | exact bV12 hV (by omega) | exact bV_1 hV | exact bV_2 hV) (by first | omega | exact bV_0 hV | exact bV7 hV (by decide) (by omega) | exact bV84 hV (by decide) (by omega) | exact bV12 hV (by omega) | exact bV_1 hV | exact bV_2 hV) (tgt := 28) dX2_present_19 (q := 22) rfl (by decide) (fun h_19 => ?_) (fun h_19 => ?_)
    · refine pw_iinc hX rfl (by decide) (inc1 _) dX2_present_28 (q := 31) rfl ?_
      refine pw_goto hX (tgt := 4) dX2_present_31 (by decide) ?_
      exact pw_eq rfl (by simp_all [lst, bits]) rfl (ih (by omega))
    · refine pw_iload_n hX rfl dX2_present_22 (q := 23) rfl ?_
      refine pw_iconst hX (k := 1) rfl (by decide) dX2_present_23 (q := 24) rfl ?_
      refine pw_iload_n hX rfl dX2_present_24 (q := 25) rfl ?_
      refine pw_ishl1 hX (by omega) dX2_present_25 (q := 26) rfl ?_
      refine pw_iorN hX dX2_present_26 (q := 27) rfl ?_
      refine pw_istore_n hX (by decide) dX2_present_27 (q := 28) rfl ?_
      refine pw_iinc hX rfl (by decide) (inc1 _) dX2_present_28 (q := 31) rfl ?_
      refine pw_goto hX (tgt := 4) dX2_present_31 (by decide) ?_
      exact pw_eq rfl (by simp_all [lst, bits]) rfl (ih (by omega))
