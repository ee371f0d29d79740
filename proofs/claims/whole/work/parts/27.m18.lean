theorem wA_q {w : WD} {o : Nat} {O V : Nat → Nat → Nat} (h : o < 7) (k : Nat) (f : Nat → Nat) : wA (wO (oW w O) o V) 7 k f = wO (oW w (vA O k f)) o V := by
  rw [← oW_V _ _ _ h, oW_A, oW_V _ _ _ h]
abbrev CO : Type := Bool × (Nat → Nat → Nat) × (Nat → Nat → Nat) × Nat
def kSO (x : CO) (e : Nat) : CO :=
  if tO x.2.1 x.2.2.1 x.2.2.2 e = 0 then (false, tOV x.2.1 x.2.2.1 x.2.2.2 e, vU (kSF (vA x.2.2.1 2 (rAll (x.2.2.1 1) x.2.2.2 e (x.2.2.1 2)).2.2.2.2) x.2.2.2 0) 0 3 (x.2.2.1 0 3 + 1), e + 1)
  else (true, tOV x.2.1 x.2.2.1 x.2.2.2 e, kSF (vA x.2.2.1 2 (rAll (x.2.2.1 1) x.2.2.2 e (x.2.2.1 2)).2.2.2.2) x.2.2.2 (tO x.2.1 x.2.2.1 x.2.2.2 e), x.2.2.2)
def kC (V O : Nat → Nat → Nat) : Nat → CO
  | 0 => (false, V, vU O 0 3 0, 0)
  | e + 1 => if (kC V O e).1 = true then kC V O e else if O 1 e = 59 then kSO (kC V O e) e else kC V O e
theorem kC_s (V O : Nat → Nat → Nat) (e : Nat) : kC V O (e + 1) = if (kC V O e).1 = true then kC V O e else if O 1 e = 59 then kSO (kC V O e) e else kC V O e := rfl
theorem kC_f {V O : Nat → Nat → Nat} {e : Nat} (h : (kC V O e).1 = true) : ∀ d, kC V O (e + d) = kC V O e
  | 0 => rfl
  | d + 1 => by rw [← Nat.add_assoc, kC_s, kC_f h d, if_pos h]
theorem kC_O (V O : Nat → Nat → Nat) : ∀ e, (kC V O e).2.2.1 1 = O 1 ∧ (kC V O e).2.2.1 0 1 = O 0 1 ∧ (kC V O e).2.2.2 ≤ e
  | 0 => ⟨rfl, rfl, Nat.le_refl _⟩
  | e + 1 => by
    obtain ⟨h1, h2, h3⟩ := kC_O V O e
    rw [kC_s]
    split
    · exact ⟨h1, h2, by omega⟩
    · split
      · unfold kSO
        split
        · exact ⟨h1, h2, Nat.le_refl _⟩
        · exact ⟨h1, h2, by dsimp only; omega⟩
      · exact ⟨h1, h2, by omega⟩
def kCarry (V O : Nat → Nat → Nat) : (Nat → Nat → Nat) × (Nat → Nat → Nat) := if (kC V O (O 0 1)).1 = true then ((kC V O (O 0 1)).2.1, (kC V O (O 0 1)).2.2.1) else ((kC V O (O 0 1)).2.1, kSF (kC V O (O 0 1)).2.2.1 (kC V O (O 0 1)).2.2.2 (if (kC V O (O 0 1)).2.2.2 < O 0 1 then 1 else 0))
/-- what is asked of the village all along -/
def cOk (V O : Nat → Nat → Nat) : Prop := ∀ e, e ≤ O 0 1 → (kC V O e).1 = false → bP (kC V O e).2.1 ∧ ∀ i, i < 7 → ((kC V O e).2.1 2 i + 1) * 8 + i < 2 ^ 30
abbrev rm_X1_carryOut : Room := { frames := 7, cells := 0, slots := 0, locals := 165 }
set_option maxHeartbeats 800000 in
set_option maxRecDepth 20000 in
theorem c_X1_carryOut {l : Launch} {g : Geo} {w : WD} {O V : Nat → Nat → Nat} {o : Nat} (ho : o < 7) (hl : O 0 1 ≤ 60) (hT : ∀ j, j < 60 → O 1 j < 65536) (hG : cOk V O) : CtV l g yX1_carryOut cX1_carryOut 4 none rm_X1_carryOut [.ref (g_ad g 7 0), .ref (g_ad g o 0)] (wO (oW w O) o V) (wO (oW w (kCarry V O).2) o (kCarry V O).1) := by
  refine ct_of mi_X1_carryOut.2.2.2.2.2 ⟨rfl, rfl⟩ (List.forall_mem_cons.mpr ⟨rfl, List.forall_mem_cons.mpr ⟨rfl, fun _ h => absurd h List.not_mem_nil⟩⟩) (Nat.le_of_ble_eq_true rfl) (fun P hX => ?_)
  replace hX : Gd l g RX1 cX1_carryOut rm_X1_carryOut 4 none _ _ P := hX
  show P (wO (oW w O) o V) 0 [some (.ref (g_ad g 7 0)), some (.ref (g_ad g o 0)), none, none] []
  refine pw_aload_n hX rfl dX1_carryOut_0 (q := 1) rfl ?_
  refine pw_iconst hX (k := 0) rfl (by decide) dX1_carryOut_1 (q := 2) rfl ?_
  refine pw_putO hX 3 (by decide) fl_X1_23 dX1_carryOut_2 (q := 5) rfl ?_
  repeat first | rw [q_7 ho] | rw [wA_q ho] | rw [vA_vU]
  refine pw_iconst hX (k := 0) rfl (by decide) dX1_carryOut_5 (q := 6) rfl ?_
  refine pw_istore_n hX (by decide) dX1_carryOut_6 (q := 7) rfl ?_
  refine pw_iconst hX (k := 0) rfl (by decide) dX1_carryOut_7 (q := 8) rfl ?_
  refine pw_istore_n hX (by decide) dX1_carryOut_8 (q := 9) rfl ?_
  suffices L : ∀ e, e ≤ O 0 1 → (kC V O e).1 = false → P (wO (oW w (kC V O e).2.2.1) o (kC V O e).2.1) 9 [some (.ref (g_ad g 7 0)), some (.ref (g_ad g o 0)), some (.int (nI (kC V O e).2.2.2)), some (.int (nI e))] [] by exact L 0 (Nat.zero_le _) rfl
  refine loopUp (fun e he ih => ?_)
  intro hF
  obtain ⟨hO1, hO0, hs⟩ := kC_O V O e
  obtain ⟨hP, hc2⟩ := hG e he hF
  refine pw_iload_n hX rfl dX1_carryOut_9 (q := 10) rfl ?_
  refine pw_aload_n hX rfl dX1_carryOut_10 (q := 11) rfl ?_
  refine pw_getO hX 1 (by decide) fl_X1_15 rfl dX1_carryOut_11 (q := 14) rfl ?_
  repeat first | rw [q_7 ho] | rw [wA_q ho] | rw [vA_vU]
  rw [hO0]
  refine pw_icmpN_ge hX (by first | omega | (have h9 := hT e (by omega); omega) | exact Nat.lt_of_le_of_lt (tO_le _ _ _ _) (by decide)) (by first | omega | (have h9 := hT e (by omega); omega) | exact Nat.lt_of_le_of_lt (tO_le _ _ _ _) (by decide)) (tgt := 68) dX1_carryOut_14 (q := 17) rfl (by decide) (fun h_14 => ?_) (fun h_14 => ?_)
  · have e68 : e = O 0 1 := by omega
    refine pw_aload_n hX rfl dX1_carryOut_68 (q := 69) rfl ?_
    refine pw_iload_n hX rfl dX1_carryOut_69 (q := 70) rfl ?_
    refine pw_iload_n hX rfl dX1_carryOut_70 (q := 71) rfl ?_
    refine pw_aload_n hX rfl dX1_carryOut_71 (q := 72) rfl ?_
    refine pw_getO hX 1 (by decide) fl_X1_15 rfl dX1_carryOut_72 (q := 75) rfl ?_
    repeat first | rw [q_7 ho] | rw [wA_q ho] | rw [vA_vU]
    rw [hO0]
    refine pw_icmpN_ge hX (by first | omega | (have h9 := hT e (by omega); omega) | exact Nat.lt_of_le_of_lt (tO_le _ _ _ _) (by decide)) (by first | omega | (have h9 := hT e (by omega); omega) | exact Nat.lt_of_le_of_lt (tO_le _ _ _ _) (by decide)) (tgt := 82) dX1_carryOut_75 (q := 78) rfl (by decide) (fun h_75 => ?_) (fun h_75 => ?_)
    · refine pw_iconst hX (k := 0) rfl (by decide) dX1_carryOut_82 (q := 83) rfl ?_
      refine pw_cvV2 hX dX1_carryOut_83 (q := 86) rfl mi_X1_setFault ml_X1_36 rcO ⟨rfl, rfl, by decide, by decide⟩ rfl (Nat.le_of_ble_eq_true rfl) ((c_X1_setFault).q ho) ?_
      have er : kCarry V O = ((kC V O e).2.1, kSF (kC V O e).2.2.1 (kC V O e).2.2.2 0) := by rw [kCarry, ← e68, if_neg (by rw [hF]; decide), if_neg (by omega)]
      refine pw_return hX dX1_carryOut_86 rfl ⟨rfl, ?_⟩
      rw [er]
    · refine pw_iconst hX (k := 1) rfl (by decide) dX1_carryOut_78 (q := 79) rfl ?_
      refine pw_goto hX (tgt := 83) dX1_carryOut_79 (by decide) ?_
      refine pw_cvV2 hX dX1_carryOut_83 (q := 86) rfl mi_X1_setFault ml_X1_36 rcO ⟨rfl, rfl, by decide, by decide⟩ rfl (Nat.le_of_ble_eq_true rfl) ((c_X1_setFault).q ho) ?_
      have er : kCarry V O = ((kC V O e).2.1, kSF (kC V O e).2.2.1 (kC V O e).2.2.2 1) := by rw [kCarry, ← e68, if_neg (by rw [hF]; decide), if_pos (by omega)]
      refine pw_return hX dX1_carryOut_86 rfl ⟨rfl, ?_⟩
      rw [er]
  · refine pw_aload_n hX rfl dX1_carryOut_17 (q := 18) rfl ?_
    refine pw_getO hX 0 (by decide) fl_X1_9 rfl dX1_carryOut_18 (q := 21) rfl ?_
    refine pw_iload_n hX rfl dX1_carryOut_21 (q := 22) rfl ?_
    refine pw_caldG hX (by omega) dX1_carryOut_22 (q := 23) rfl ?_
    repeat first | rw [q_7 ho] | rw [wA_q ho] | rw [vA_vU]
    rw [show (kC V O e).2.2.1 1 e = O 1 e by rw [hO1]]
    refine pw_bipush hX (k := 59) (by decide) dX1_carryOut_23 (q := 25) rfl ?_
    refine pw_icmpN_ne hX (by first | omega | (have h9 := hT e (by omega); omega) | exact Nat.lt_of_le_of_lt (tO_le _ _ _ _) (by decide)) (by first | omega | (have h9 := hT e (by omega); omega) | exact Nat.lt_of_le_of_lt (tO_le _ _ _ _) (by decide)) (tgt := 62) dX1_carryOut_25 (q := 28) rfl (by decide) (fun h_25 => ?_) (fun h_25 => ?_)
    · refine pw_iinc hX rfl (by decide) (inc1 _) dX1_carryOut_62 (q := 65) rfl ?_
      refine pw_goto hX (tgt := 9) dX1_carryOut_65 (by decide) ?_
      have e1 : kC V O (e + 1) = kC V O e := by rw [kC_s, if_neg (by rw [hF]; decide), if_neg h_25]
      exact pw_eq (by rw [e1]) (by rw [e1]; rfl) rfl (ih (by omega) (by rw [e1]; exact hF))
    · refine pw_aload_n hX rfl dX1_carryOut_28 (q := 29) rfl ?_
      refine pw_iload_n hX rfl dX1_carryOut_29 (q := 30) rfl ?_
      refine pw_aload_n hX rfl dX1_carryOut_30 (q := 31) rfl ?_
      refine pw_iload_n hX rfl dX1_carryOut_31 (q := 32) rfl ?_
      refine pw_iload_n hX rfl dX1_carryOut_32 (q := 33) rfl ?_
      refine pw_aload_n hX rfl dX1_carryOut_33 (q := 34) rfl ?_
      refine pw_cvI3 hX dX1_carryOut_34 (q := 37) rfl mi_X1_tryOrder ml_X1_32 rcO ⟨rfl, rfl, by decide, by decide⟩ rfl (Nat.le_of_ble_eq_true rfl) (c_X1_tryOrder ho hP hc2 hs (by omega) (by rw [hO1]; exact hT)) ?_
      refine pw_cvV2 hX dX1_carryOut_37 (q := 40) rfl mi_X1_setFault ml_X1_36 rcO ⟨rfl, rfl, by decide, by decide⟩ rfl (Nat.le_of_ble_eq_true rfl) ((c_X1_setFault).q ho) ?_
      refine pw_aload_n hX rfl dX1_carryOut_40 (q := 41) rfl ?_
      refine pw_getO hX 5 (by decide) fl_X1_29 rfl dX1_carryOut_41 (q := 44) rfl ?_
      repeat first | rw [q_7 ho] | rw [wA_q ho] | rw [vA_vU]
      rw [show kSF (vA (kC V O e).2.2.1 2 (rAll ((kC V O e).2.2.1 1) (kC V O e).2.2.2 e ((kC V O e).2.2.1 2)).2.2.2.2) (kC V O e).2.2.2 (tO (kC V O e).2.1 (kC V O e).2.2.1 (kC V O e).2.2.2 e) 0 5 = tO (kC V O e).2.1 (kC V O e).2.2.1 (kC V O e).2.2.2 e from rfl]
      refine pw_ifN_eq hX (by first | omega | (have h9 := hT e (by omega); omega) | exact Nat.lt_of_le_of_lt (tO_le _ _ _ _) (by decide)) (tgt := 48) dX1_carryOut_44 (q := 47) rfl (by decide) (fun h_44 => ?_) (fun h_44 => ?_)
      · refine pw_aload_n hX rfl dX1_carryOut_48 (q := 49) rfl ?_
        refine pw_dup hX rfl dX1_carryOut_49 (q := 50) rfl ?_
        refine pw_getO hX 3 (by decide) fl_X1_23 rfl dX1_carryOut_50 (q := 53) rfl ?_
        repeat first | rw [q_7 ho] | rw [wA_q ho] | rw [vA_vU]
        refine pw_iconst hX (k := 1) rfl (by decide) dX1_carryOut_53 (q := 54) rfl ?_
        refine pw_iaddN hX dX1_carryOut_54 (q := 55) rfl ?_
        refine pw_putO hX 3 (by decide) fl_X1_23 dX1_carryOut_55 (q := 58) rfl ?_
        repeat first | rw [q_7 ho] | rw [wA_q ho] | rw [vA_vU]
        refine pw_iload_n hX rfl dX1_carryOut_58 (q := 59) rfl ?_
        refine pw_iconst hX (k := 1) rfl (by decide) dX1_carryOut_59 (q := 60) rfl ?_
        refine pw_iaddN hX dX1_carryOut_60 (q := 61) rfl ?_
        refine pw_istore_n hX (by decide) dX1_carryOut_61 (q := 62) rfl ?_
        refine pw_iinc hX rfl (by decide) (inc1 _) dX1_carryOut_62 (q := 65) rfl ?_
        refine pw_goto hX (tgt := 9) dX1_carryOut_65 (by decide) ?_
        have e1 : kC V O (e + 1) = (false, tOV (kC V O e).2.1 (kC V O e).2.2.1 (kC V O e).2.2.2 e, vU (kSF (vA (kC V O e).2.2.1 2 (rAll ((kC V O e).2.2.1 1) (kC V O e).2.2.2 e ((kC V O e).2.2.1 2)).2.2.2.2) (kC V O e).2.2.2 0) 0 3 ((kC V O e).2.2.1 0 3 + 1), e + 1) := by rw [kC_s, if_neg (by rw [hF]; decide), if_pos h_25, kSO, if_pos h_44]
        exact pw_eq (by rw [e1, h_44]; rfl) (by rw [e1]; rfl) rfl (ih (by omega) (by rw [e1]))
      · have e1 : kC V O (e + 1) = (true, tOV (kC V O e).2.1 (kC V O e).2.2.1 (kC V O e).2.2.2 e, kSF (vA (kC V O e).2.2.1 2 (rAll ((kC V O e).2.2.1 1) (kC V O e).2.2.2 e ((kC V O e).2.2.1 2)).2.2.2.2) (kC V O e).2.2.2 (tO (kC V O e).2.1 (kC V O e).2.2.1 (kC V O e).2.2.2 e), (kC V O e).2.2.2) := by rw [kC_s, if_neg (by rw [hF]; decide), if_pos h_25, kSO, if_neg h_44]
        have e2 : kC V O (O 0 1) = kC V O (e + 1) := by rw [show O 0 1 = (e + 1) + (O 0 1 - (e + 1)) by omega]; exact kC_f (by rw [e1]) _
        have er : kCarry V O = (tOV (kC V O e).2.1 (kC V O e).2.2.1 (kC V O e).2.2.2 e, kSF (vA (kC V O e).2.2.1 2 (rAll ((kC V O e).2.2.1 1) (kC V O e).2.2.2 e ((kC V O e).2.2.1 2)).2.2.2.2) (kC V O e).2.2.2 (tO (kC V O e).2.1 (kC V O e).2.2.1 (kC V O e).2.2.2 e)) := by rw [kCarry, e2, e1]; rfl
        refine pw_return hX dX1_carryOut_47 rfl ⟨rfl, ?_⟩
        rw [er]
