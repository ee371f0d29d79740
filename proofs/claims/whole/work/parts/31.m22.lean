theorem ff_le {n b : Nat} (hn : n < 2 ^ 31) (hb : b < 2 ^ 31) : nI n ≤ ff b ↔ n < b := by
  rcases b with _ | b
  · refine ⟨fun h => absurd h (Int32.not_le.mpr ?_), fun h => absurd h (Nat.not_lt_zero _)⟩
    rw [Int32.lt_iff_toInt_lt, nI_toInt hn, show (ff 0).toInt = -1000004 by decide]; omega
  · rw [ff_s, nI_leI hn (by omega)]; omega
def kWp (V : Nat → Nat → Nat) (o p : Nat) : Nat := cnt (fun t => decide (kGv V o p t ≠ 0)) 12
theorem kWp_le (V : Nat → Nat → Nat) (o p : Nat) : kWp V o p ≤ 12 := cnt_le _ 12
def qbS (V : Nat → Nat → Nat) (o p : Nat) (x : Nat × Nat) : Nat × Nat := if kAw V (nI o) = true ∧ kAw V (nI p) = true ∧ x.1 ≤ kWp V o p then (kWp V o p + 1, 10 * o + p) else x
def qbI (V : Nat → Nat → Nat) (o : Nat) (x : Nat × Nat) : Nat → Nat × Nat
  | 0 => x
  | k + 1 => qbS V o (o + 1 + k) (qbI V o x k)
theorem qbI_s (V : Nat → Nat → Nat) (o : Nat) (x : Nat × Nat) (k : Nat) : qbI V o x (k + 1) = qbS V o (o + 1 + k) (qbI V o x k) := rfl
def qbO (V : Nat → Nat → Nat) : Nat → Nat × Nat
  | 0 => (0, 0)
  | o + 1 => qbI V o (qbO V o) (7 - (o + 1))
theorem qbO_s (V : Nat → Nat → Nat) (o : Nat) : qbO V (o + 1) = qbI V o (qbO V o) (7 - (o + 1)) := rfl
theorem qbS_le (V : Nat → Nat → Nat) (o p : Nat) (x : Nat × Nat) (h : x.1 ≤ 13) : (qbS V o p x).1 ≤ 13 := by
  have := kWp_le V o p
  unfold qbS
  split
  · show kWp V o p + 1 ≤ 13; omega
  · exact h
theorem qbI_le (V : Nat → Nat → Nat) (o : Nat) (x : Nat × Nat) (h : x.1 ≤ 13) : ∀ k, (qbI V o x k).1 ≤ 13
  | 0 => h
  | k + 1 => qbS_le V _ _ _ (qbI_le V o x h k)
theorem qbO_le (V : Nat → Nat → Nat) : ∀ o, (qbO V o).1 ≤ 13
  | 0 => Nat.zero_le _
  | o + 1 => qbI_le V _ _ (qbO_le V o) _
def qBM (V : Nat → Nat → Nat) (v : Int32) : Int32 := if v = 0 then fv (qbO V 7) else if v = nI 1 then ff (qbO V 7).1 else -1000001
theorem bV_MeetIn {V : Nat → Nat → Nat} (h : bV V) : bV (kMeetIn V) := by
  have h7 := h.2.2.2.1
  obtain ⟨h1, -, h3, h4⟩ := kMi_b h (V 0 0) (Nat.le_refl _)
  unfold kMeetIn
  split
  · exact bV_Tk (a := (kMi V (V 0 0)).2.2 - 1) (b := (kMi V (V 0 0)).2.1 - 1) h1 (by omega) (by omega)
  · exact h1
def qrF : Nat → (Nat → Nat → Nat) → Nat → Nat × (Nat → Nat → Nat)
  | 0, U, n => (n, U)
  | f + 1, U, n => if kAl U = true then (n, U) else qrF f (kMeetIn U) (n + 1)
def qRds (U : Nat → Nat → Nat) : Int32 := if kAl (qrF 7 U 0).2 = true then nI (qrF 7 U 0).1 else -1000004
theorem kC_r (V O : Nat → Nat → Nat) : ∀ e, (kC V O e).1 = true → (kC V O e).2.2.1 0 5 ≤ 3
  | 0, h => by cases h
  | e + 1, h => by
    rw [kC_s] at h ⊢
    by_cases h1 : (kC V O e).1 = true
    · rw [if_pos h1]; exact kC_r V O e h1
    · rw [if_neg h1] at h ⊢
      by_cases h2 : O 1 e = 59
      · rw [if_pos h2] at h ⊢
        unfold kSO at h ⊢
        split at h
        · cases h
        · rename_i h3
          rw [if_neg h3]
          exact tO_le _ _ _ _
      · rw [if_neg h2] at h
        exact absurd h h1
theorem kCarry_r (V O : Nat → Nat → Nat) : (kCarry V O).2 0 5 ≤ 3 := by
  unfold kCarry
  split
  · rename_i h; exact kC_r V O _ h
  · show (if _ then 1 else 0) ≤ 3
    split <;> omega
abbrev qX (w : WD) : (Nat → Nat → Nat) × (Nat → Nat → Nat) := kCarry (kCp (w.1 1) (w.1 0)) (w.1 7)
abbrev qW1 (w : WD) : WD := wO (oW w (qX w).2) 1 (qX w).1
def qFl (w : WD) (v : Int32) : Int32 := if v = 0 ∨ v = nI 1 then (if (qX w).2 0 5 = 0 then -1000004 else if v = 0 then nI ((qX w).2 0 4) else nI ((qX w).2 0 5)) else -1000001
def qPl (w : WD) : Int32 := if (qX w).2 0 5 = 0 then nI ((qX w).2 0 3) else -1000002
def qPlW (w : WD) : WD := if (qX w).2 0 5 = 0 then Rec (wO (Prep (qW1 w)) 0 (kCp ((Prep (qW1 w)).1 0) ((Prep (qW1 w)).1 1))) (nI ((qX w).2 0 3)) else qW1 w
abbrev rm_X3_bestMeeting : Room := { frames := 4, cells := 0, slots := 0, locals := 96 }
set_option maxHeartbeats 800000 in
set_option maxRecDepth 20000 in
theorem c_X3_bestMeeting {l : Launch} {g : Geo} {w : WD} {v : Int32} (hV : bV (w.1 0)) : CtI l g yX3_bestMeeting cX3_bestMeeting 7 (some .int) rm_X3_bestMeeting [.ref (g_ad g 10 0), .int v] (w) (qBM (w.1 0) v) (w) := by
  refine ct_of mi_X3_bestMeeting.2.2.2.2.2 ⟨rfl, rfl⟩ (List.forall_mem_cons.mpr ⟨rfl, List.forall_mem_cons.mpr ⟨rfl, fun _ h => absurd h List.not_mem_nil⟩⟩) (Nat.le_of_ble_eq_true rfl) (fun P hX => ?_)
  replace hX : Gd l g RX3 cX3_bestMeeting rm_X3_bestMeeting 7 (some .int) _ _ P := hX
  show P (w) 0 [some (.ref (g_ad g 10 0)), some (.int v), none, none, none, none, none] []
  refine jn (A := (v = 0 ∨ v = nI 1) → P w 12 [some (.ref (g_ad g 10 0)), some (.int v), none, none, none, none, none] []) ?_ (fun J0 => ?_)
  · intro hv
    refine pw_ldc hX cn_X3_84 dX3_bestMeeting_12 (q := 14) rfl ?_
    refine pw_istore_n hX (by decide) dX3_bestMeeting_14 (q := 15) rfl ?_
    refine pw_ldc hX cn_X3_84 dX3_bestMeeting_15 (q := 17) rfl ?_
    refine pw_istore_n hX (by decide) dX3_bestMeeting_17 (q := 18) rfl ?_
    refine pw_iconst hX (k := 0) rfl (by decide) dX3_bestMeeting_18 (q := 19) rfl ?_
    refine pw_istore hX (by decide) dX3_bestMeeting_19 (q := 21) rfl ?_
    suffices L : ∀ o, o ≤ 7 → P w 21 [some (.ref (g_ad g 10 0)), some (.int v), some (.int (fv (qbO (w.1 0) o))), some (.int (ff (qbO (w.1 0) o).1)), some (.int (nI o)), none, none] [] by exact L 0 (Nat.zero_le _)
    refine loopUp (fun o hoo ih => ?_)
    refine pw_iload hX rfl dX3_bestMeeting_21 (q := 23) rfl ?_
    refine pw_bipush hX (k := 7) (by decide) dX3_bestMeeting_23 (q := 25) rfl ?_
    refine pw_icmpN_ge hX (by omega) (by omega) (tgt := 108) dX3_bestMeeting_25 (q := 28) rfl (by decide) (fun h_25 => ?_) (fun h_25 => ?_)
    · refine pw_iload_n hX rfl dX3_bestMeeting_108 (q := 109) rfl ?_
      refine pw_if_ne hX (tgt := 116) dX3_bestMeeting_109 (q := 112) rfl (by decide) (fun h_109 => ?_) (fun h_109 => ?_)
      · refine pw_iload_n hX rfl dX3_bestMeeting_116 (q := 117) rfl ?_
        refine pw_ireturn hX dX3_bestMeeting_117 ⟨_, rfl, rfl⟩ ⟨congrArg (fun z => some (Value.int z)) ?_, ?_⟩
        · rw [show o = 7 by omega, qBM]; first | (rw [if_pos h_109]; done) | (rw [if_neg h_109, if_pos (hv.resolve_left h_109)]; done)
        · rfl
      · refine pw_iload_n hX rfl dX3_bestMeeting_112 (q := 113) rfl ?_
        refine pw_goto hX (tgt := 117) dX3_bestMeeting_113 (by decide) ?_
        refine pw_ireturn hX dX3_bestMeeting_117 ⟨_, rfl, rfl⟩ ⟨congrArg (fun z => some (Value.int z)) ?_, ?_⟩
        · rw [show o = 7 by omega, qBM]; first | (rw [if_pos h_109]; done) | (rw [if_neg h_109, if_pos (hv.resolve_left h_109)]; done)
        · rfl
    · refine pw_iload hX rfl dX3_bestMeeting_28 (q := 30) rfl ?_
      refine pw_iconst hX (k := 1) rfl (by decide) dX3_bestMeeting_30 (q := 31) rfl ?_
      refine pw_iaddN hX dX3_bestMeeting_31 (q := 32) rfl ?_
      refine pw_istore hX (by decide) dX3_bestMeeting_32 (q := 34) rfl ?_
      suffices L2 : ∀ k, k ≤ 7 - (o + 1) → P w 34 [some (.ref (g_ad g 10 0)), some (.int v), some (.int (fv (qbI (w.1 0) o (qbO (w.1 0) o) k))), some (.int (ff (qbI (w.1 0) o (qbO (w.1 0) o) k).1)), some (.int (nI o)), some (.int (nI (o + 1 + k))), none] [] by exact L2 0 (Nat.zero_le _)
      refine loopUp (fun k hk ih2 => ?_)
      have hb1 := qbI_le (w.1 0) o (qbO (w.1 0) o) (qbO_le (w.1 0) o) k
      have hb2 := kWp_le (w.1 0) o (o + 1 + k)
      refine pw_iload hX rfl dX3_bestMeeting_34 (q := 36) rfl ?_
      refine pw_bipush hX (k := 7) (by decide) dX3_bestMeeting_36 (q := 38) rfl ?_
      refine pw_icmpN_ge hX (by omega) (by omega) (tgt := 102) dX3_bestMeeting_38 (q := 41) rfl (by decide) (fun h_38 => ?_) (fun h_38 => ?_)
      · refine pw_iinc hX rfl (by decide) (inc1 _) dX3_bestMeeting_102 (q := 105) rfl ?_
        refine pw_goto hX (tgt := 21) dX3_bestMeeting_105 (by decide) ?_
        have e37 : k = 7 - (o + 1) := by omega
        exact pw_fg hX (lv' := [_, _, _, _, _, none, none]) (by repeat first | exact lle_nil | refine lle_cons ?_ | refine lle_none ?_) (pw_eq rfl (by first | (rw [qbO_s, ← e37]; done) | (rw [qbO_s, ← e37]; rfl)) rfl (ih (by omega)))
      · refine pw_aload_n hX rfl dX3_bestMeeting_41 (q := 42) rfl ?_
        refine pw_getR hX 0 (by decide) fl_X3_10 rfl dX3_bestMeeting_42 (q := 45) rfl ?_
        refine pw_iload hX rfl dX3_bestMeeting_45 (q := 47) rfl ?_
        refine pw_cvI1 hX dX3_bestMeeting_47 (q := 50) rfl mi_X2_isAwake ml_X3_155 (rcV (show 0 < 7 by decide)) ⟨rfl, rfl, by decide, by decide⟩ rfl (Nat.le_of_ble_eq_true rfl) (c_X2_isAwake h07 hV).r ?_
        refine pw_ifB_eq hX (tgt := 96) dX3_bestMeeting_50 (q := 53) rfl (by decide) (fun h_50 => ?_) (fun h_50 => ?_)
        · refine pw_iinc hX rfl (by decide) (inc1 _) dX3_bestMeeting_96 (q := 99) rfl ?_
          refine pw_goto hX (tgt := 34) dX3_bestMeeting_99 (by decide) ?_
          have e1 : qbI (w.1 0) o (qbO (w.1 0) o) (k + 1) = (qbI (w.1 0) o (qbO (w.1 0) o) k) := by rw [qbI_s, qbS, if_neg (show ¬ (kAw (w.1 0) (nI o) = true ∧ kAw (w.1 0) (nI (o + 1 + k)) = true ∧ (qbI (w.1 0) o (qbO (w.1 0) o) k).1 ≤ kWp (w.1 0) o (o + 1 + k)) from fun z => by rw [h_50] at z; exact absurd z.1 (by decide))]
          exact pw_fg hX (lv' := [_, _, _, _, _, _, none]) (by repeat first | exact lle_nil | refine lle_cons ?_ | refine lle_none ?_) (pw_eq rfl (by rw [e1]; rfl) rfl (ih2 (by omega)))
        · refine pw_aload_n hX rfl dX3_bestMeeting_53 (q := 54) rfl ?_
          refine pw_getR hX 0 (by decide) fl_X3_10 rfl dX3_bestMeeting_54 (q := 57) rfl ?_
          refine pw_iload hX rfl dX3_bestMeeting_57 (q := 59) rfl ?_
          refine pw_cvI1 hX dX3_bestMeeting_59 (q := 62) rfl mi_X2_isAwake ml_X3_155 (rcV (show 0 < 7 by decide)) ⟨rfl, rfl, by decide, by decide⟩ rfl (Nat.le_of_ble_eq_true rfl) (c_X2_isAwake h07 hV).r ?_
          refine pw_ifB_eq hX (tgt := 96) dX3_bestMeeting_62 (q := 65) rfl (by decide) (fun h_62 => ?_) (fun h_62 => ?_)
          · refine pw_iinc hX rfl (by decide) (inc1 _) dX3_bestMeeting_96 (q := 99) rfl ?_
            refine pw_goto hX (tgt := 34) dX3_bestMeeting_99 (by decide) ?_
            have e1 : qbI (w.1 0) o (qbO (w.1 0) o) (k + 1) = (qbI (w.1 0) o (qbO (w.1 0) o) k) := by rw [qbI_s, qbS, if_neg (show ¬ (kAw (w.1 0) (nI o) = true ∧ kAw (w.1 0) (nI (o + 1 + k)) = true ∧ (qbI (w.1 0) o (qbO (w.1 0) o) k).1 ≤ kWp (w.1 0) o (o + 1 + k)) from fun z => by rw [h_62] at z; exact absurd z.2.1 (by decide))]
            exact pw_fg hX (lv' := [_, _, _, _, _, _, none]) (by repeat first | exact lle_nil | refine lle_cons ?_ | refine lle_none ?_) (pw_eq rfl (by rw [e1]; rfl) rfl (ih2 (by omega)))
          · refine pw_aload_n hX rfl dX3_bestMeeting_65 (q := 66) rfl ?_
            refine pw_getR hX 0 (by decide) fl_X3_10 rfl dX3_bestMeeting_66 (q := 69) rfl ?_
            refine pw_iload hX rfl dX3_bestMeeting_69 (q := 71) rfl ?_
            refine pw_iload hX rfl dX3_bestMeeting_71 (q := 73) rfl ?_
            refine pw_cvI2 hX dX3_bestMeeting_73 (q := 76) rfl mi_X2_wouldPass ml_X3_158 (rcV (show 0 < 7 by decide)) ⟨rfl, rfl, by decide, by decide⟩ rfl (Nat.le_of_ble_eq_true rfl) (c_X2_wouldPass h07 hV (by omega) (by omega)).r ?_
            refine pw_istore hX (by decide) dX3_bestMeeting_76 (q := 78) rfl ?_
            refine pw_iload hX rfl dX3_bestMeeting_78 (q := 80) rfl ?_
            refine pw_iload_n hX rfl dX3_bestMeeting_80 (q := 81) rfl ?_
            refine pw_icmp_le hX (tgt := 96) dX3_bestMeeting_81 (q := 84) rfl (by decide) (fun h_81 => ?_) (fun h_81 => ?_)
            · rw [show cnt (fun t => decide (kGv (w.1 0) o (o + 1 + k) t ≠ 0)) 12 = kWp (w.1 0) o (o + 1 + k) from rfl, ff_le (by omega) (by omega)] at h_81
              refine pw_iinc hX rfl (by decide) (inc1 _) dX3_bestMeeting_96 (q := 99) rfl ?_
              refine pw_goto hX (tgt := 34) dX3_bestMeeting_99 (by decide) ?_
              have e1 : qbI (w.1 0) o (qbO (w.1 0) o) (k + 1) = (qbI (w.1 0) o (qbO (w.1 0) o) k) := by rw [qbI_s, qbS, if_neg (show ¬ (kAw (w.1 0) (nI o) = true ∧ kAw (w.1 0) (nI (o + 1 + k)) = true ∧ (qbI (w.1 0) o (qbO (w.1 0) o) k).1 ≤ kWp (w.1 0) o (o + 1 + k)) from fun z => by have := z.2.2; omega)]
              exact pw_fg hX (lv' := [_, _, _, _, _, _, none]) (by repeat first | exact lle_nil | refine lle_cons ?_ | refine lle_none ?_) (pw_eq rfl (by rw [e1]; rfl) rfl (ih2 (by omega)))
            · rw [show cnt (fun t => decide (kGv (w.1 0) o (o + 1 + k) t ≠ 0)) 12 = kWp (w.1 0) o (o + 1 + k) from rfl, ff_le (by omega) (by omega)] at h_81
              refine pw_iload hX rfl dX3_bestMeeting_84 (q := 86) rfl ?_
              refine pw_istore_n hX (by decide) dX3_bestMeeting_86 (q := 87) rfl ?_
              refine pw_bipush hX (k := 10) (by decide) dX3_bestMeeting_87 (q := 89) rfl ?_
              refine pw_iload hX rfl dX3_bestMeeting_89 (q := 91) rfl ?_
              refine pw_imulN hX dX3_bestMeeting_91 (q := 92) rfl ?_
              refine pw_iload hX rfl dX3_bestMeeting_92 (q := 94) rfl ?_
              refine pw_iaddN hX dX3_bestMeeting_94 (q := 95) rfl ?_
              refine pw_istore_n hX (by decide) dX3_bestMeeting_95 (q := 96) rfl ?_
              refine pw_iinc hX rfl (by decide) (inc1 _) dX3_bestMeeting_96 (q := 99) rfl ?_
              refine pw_goto hX (tgt := 34) dX3_bestMeeting_99 (by decide) ?_
              have e1 : qbI (w.1 0) o (qbO (w.1 0) o) (k + 1) = (kWp (w.1 0) o (o + 1 + k) + 1, 10 * o + (o + 1 + k)) := by rw [qbI_s, qbS, if_pos (show (kAw (w.1 0) (nI o) = true ∧ kAw (w.1 0) (nI (o + 1 + k)) = true ∧ (qbI (w.1 0) o (qbO (w.1 0) o) k).1 ≤ kWp (w.1 0) o (o + 1 + k)) from ⟨h_50, h_62, by omega⟩)]
              exact pw_fg hX (lv' := [_, _, _, _, _, _, none]) (by repeat first | exact lle_nil | refine lle_cons ?_ | refine lle_none ?_) (pw_eq rfl (by rw [e1]; rfl) rfl (ih2 (by omega)))
  · refine pw_iload_n hX rfl dX3_bestMeeting_0 (q := 1) rfl ?_
    refine pw_if_eq hX (tgt := 12) dX3_bestMeeting_1 (q := 4) rfl (by decide) (fun h_1 => ?_) (fun h_1 => ?_)
    · first | exact J0 (Or.inl h_1) | exact J0 (Or.inr h_6)
    · refine pw_iload_n hX rfl dX3_bestMeeting_4 (q := 5) rfl ?_
      refine pw_iconst hX (k := 1) rfl (by decide) dX3_bestMeeting_5 (q := 6) rfl ?_
      refine pw_icmp_eq hX (tgt := 12) dX3_bestMeeting_6 (q := 9) rfl (by decide) (fun h_6 => ?_) (fun h_6 => ?_)
      · first | exact J0 (Or.inl h_1) | exact J0 (Or.inr h_6)
      · refine pw_ldc hX cn_X3_61 dX3_bestMeeting_9 (q := 11) rfl ?_
        refine pw_ireturn hX dX3_bestMeeting_11 ⟨_, rfl, rfl⟩ ⟨congrArg (fun z => some (Value.int z)) ?_, ?_⟩
        · rw [qBM, if_neg h_1, if_neg h_6]
        · rfl
abbrev rm_X3_rounds : Room := { frames := 5, cells := 0, slots := 0, locals := 121 }
set_option maxHeartbeats 800000 in
set_option maxRecDepth 20000 in
theorem c_X3_rounds {l : Launch} {g : Geo} {w : WD} (hV : bV (w.1 0)) (hP : bP (w.1 0)) : CtI l g yX3_rounds cX3_rounds 2 (some .int) rm_X3_rounds [.ref (g_ad g 10 0)] (w) (qRds (kCp (w.1 1) (w.1 0))) (wO w 1 (qrF 7 (kCp (w.1 1) (w.1 0)) 0).2) := by
  refine ct_of mi_X3_rounds.2.2.2.2.2 ⟨rfl, rfl⟩ (List.forall_mem_cons.mpr ⟨rfl, fun _ h => absurd h List.not_mem_nil⟩) (Nat.le_of_ble_eq_true rfl) (fun P hX => ?_)
  replace hX : Gd l g RX3 cX3_rounds rm_X3_rounds 2 (some .int) _ _ P := hX
  show P (w) 0 [some (.ref (g_ad g 10 0)), none] []
  refine pw_aload_n hX rfl dX3_rounds_0 (q := 1) rfl ?_
  refine pw_getR hX 1 (by decide) fl_X3_16 rfl dX3_rounds_1 (q := 4) rfl ?_
  refine pw_aload_n hX rfl dX3_rounds_4 (q := 5) rfl ?_
  refine pw_getR hX 0 (by decide) fl_X3_10 rfl dX3_rounds_5 (q := 8) rfl ?_
  refine pw_cvV1 hX dX3_rounds_8 (q := 11) rfl mi_X2_copyFrom ml_X3_143 (rcV (show 1 < 7 by decide)) ⟨rfl, rfl, by decide, by decide⟩ rfl (Nat.le_of_ble_eq_true rfl) (c_X2_copyFrom h17 h07 (by decide)).at ?_
  refine pw_iconst hX (k := 0) rfl (by decide) dX3_rounds_11 (q := 12) rfl ?_
  refine pw_istore_n hX (by decide) dX3_rounds_12 (q := 13) rfl ?_
  suffices L : ∀ i, i ≤ 7 → ∀ U, bV U → qrF (7 - i) U i = qrF 7 (kCp (w.1 1) (w.1 0)) 0 → P (wO w 1 U) 13 [some (.ref (g_ad g 10 0)), some (.int (nI i))] [] by exact L 0 (Nat.zero_le _) _ (bP_Cp _ hP).1 rfl
  refine loopUp (fun i hi ih => ?_)
  intro U hU hall
  refine pw_iload_n hX rfl dX3_rounds_13 (q := 14) rfl ?_
  refine pw_bipush hX (k := 7) (by decide) dX3_rounds_14 (q := 16) rfl ?_
  refine pw_icmpN_ge hX (by omega) (by omega) (tgt := 44) dX3_rounds_16 (q := 19) rfl (by decide) (fun h_16 => ?_) (fun h_16 => ?_)
  · have hend : qrF 7 (kCp (w.1 1) (w.1 0)) 0 = (i, U) := by rw [← hall, show i = 7 by omega]; rfl
    refine pw_aload_n hX rfl dX3_rounds_44 (q := 45) rfl ?_
    refine pw_getR hX 1 (by decide) fl_X3_16 rfl dX3_rounds_45 (q := 48) rfl ?_
    refine pw_cvI0 hX dX3_rounds_48 (q := 51) rfl mi_X2_awakeAreAlike ml_X3_161 (rcV (show 1 < 7 by decide)) ⟨rfl, rfl, by decide, by decide⟩ rfl (Nat.le_of_ble_eq_true rfl) (c_X2_awakeAreAlike h17 hU) ?_
    refine pw_ifB_eq hX (tgt := 59) dX3_rounds_51 (q := 54) rfl (by decide) (fun h_51 => ?_) (fun h_51 => ?_)
    · refine pw_ldc hX cn_X3_84 dX3_rounds_59 (q := 61) rfl ?_
      refine pw_ireturn hX dX3_rounds_61 ⟨_, rfl, rfl⟩ ⟨congrArg (fun z => some (Value.int z)) ?_, ?_⟩
      · rw [qRds, hend]; first | (rw [if_pos h_51, show i = 7 by omega]; done) | (rw [if_neg (by rw [h_51]; decide)]; done)
      · rw [hend]
    · refine pw_bipush hX (k := 7) (by decide) dX3_rounds_54 (q := 56) rfl ?_
      refine pw_goto hX (tgt := 61) dX3_rounds_56 (by decide) ?_
      refine pw_ireturn hX dX3_rounds_61 ⟨_, rfl, rfl⟩ ⟨congrArg (fun z => some (Value.int z)) ?_, ?_⟩
      · rw [qRds, hend]; first | (rw [if_pos h_51, show i = 7 by omega]; done) | (rw [if_neg (by rw [h_51]; decide)]; done)
      · rw [hend]
  · refine pw_aload_n hX rfl dX3_rounds_19 (q := 20) rfl ?_
    refine pw_getR hX 1 (by decide) fl_X3_16 rfl dX3_rounds_20 (q := 23) rfl ?_
    refine pw_cvI0 hX dX3_rounds_23 (q := 26) rfl mi_X2_awakeAreAlike ml_X3_161 (rcV (show 1 < 7 by decide)) ⟨rfl, rfl, by decide, by decide⟩ rfl (Nat.le_of_ble_eq_true rfl) (c_X2_awakeAreAlike h17 hU) ?_
    refine pw_ifB_eq hX (tgt := 31) dX3_rounds_26 (q := 29) rfl (by decide) (fun h_26 => ?_) (fun h_26 => ?_)
    · refine pw_aload_n hX rfl dX3_rounds_31 (q := 32) rfl ?_
      refine pw_getR hX 1 (by decide) fl_X3_16 rfl dX3_rounds_32 (q := 35) rfl ?_
      refine pw_cvV0 hX dX3_rounds_35 (q := 38) rfl mi_X2_meetInTurn ml_X3_165 (rcV (show 1 < 7 by decide)) ⟨rfl, rfl, by decide, by decide⟩ rfl (Nat.le_of_ble_eq_true rfl) (c_X2_meetInTurn h17 hU) ?_
      refine pw_iinc hX rfl (by decide) (inc1 _) dX3_rounds_38 (q := 41) rfl ?_
      refine pw_goto hX (tgt := 13) dX3_rounds_41 (by decide) ?_
      exact ih (by omega) _ (bV_MeetIn hU) (by rw [← hall, show 7 - i = (7 - (i + 1)) + 1 by omega]; exact (if_neg (by rw [h_26]; decide)).symm)
    · have hend : qrF 7 (kCp (w.1 1) (w.1 0)) 0 = (i, U) := by rw [← hall, show 7 - i = (7 - (i + 1)) + 1 by omega]; exact if_pos h_26
      refine pw_iload_n hX rfl dX3_rounds_29 (q := 30) rfl ?_
      refine pw_ireturn hX dX3_rounds_30 ⟨_, rfl, rfl⟩ ⟨congrArg (fun z => some (Value.int z)) ?_, ?_⟩
      · rw [qRds, hend, if_pos h_26]
      · rw [hend]
abbrev rm_X3_fault : Room := { frames := 8, cells := 0, slots := 0, locals := 188 }
set_option maxHeartbeats 800000 in
set_option maxRecDepth 20000 in
theorem c_X3_fault {l : Launch} {g : Geo} {w : WD} {v : Int32} (hl : w.1 7 0 1 ≤ 60) (hT : ∀ j, j < 60 → w.1 7 1 j < 65536) (hG : cOk (kCp (w.1 1) (w.1 0)) (w.1 7)) : CtI l g yX3_fault cX3_fault 2 (some .int) rm_X3_fault [.ref (g_ad g 10 0), .int v] (w) (qFl w v) (if v = 0 ∨ v = nI 1 then qW1 w else w) := by
  refine ct_of mi_X3_fault.2.2.2.2.2 ⟨rfl, rfl⟩ (List.forall_mem_cons.mpr ⟨rfl, List.forall_mem_cons.mpr ⟨rfl, fun _ h => absurd h List.not_mem_nil⟩⟩) (Nat.le_of_ble_eq_true rfl) (fun P hX => ?_)
  replace hX : Gd l g RX3 cX3_fault rm_X3_fault 2 (some .int) _ _ P := hX
  show P (w) 0 [some (.ref (g_ad g 10 0)), some (.int v)] []
  refine jn (A := (v = 0 ∨ v = nI 1) → P w 12 [some (.ref (g_ad g 10 0)), some (.int v)] []) ?_ (fun J0 => ?_)
  · intro hv
    refine pw_aload_n hX rfl dX3_fault_12 (q := 13) rfl ?_
    refine pw_getR hX 1 (by decide) fl_X3_16 rfl dX3_fault_13 (q := 16) rfl ?_
    refine pw_aload_n hX rfl dX3_fault_16 (q := 17) rfl ?_
    refine pw_getR hX 0 (by decide) fl_X3_10 rfl dX3_fault_17 (q := 20) rfl ?_
    refine pw_cvV1 hX dX3_fault_20 (q := 23) rfl mi_X2_copyFrom ml_X3_143 (rcV (show 1 < 7 by decide)) ⟨rfl, rfl, by decide, by decide⟩ rfl (Nat.le_of_ble_eq_true rfl) (c_X2_copyFrom h17 h07 (by decide)).at ?_
    refine pw_aload_n hX rfl dX3_fault_23 (q := 24) rfl ?_
    refine pw_getR hX 3 (by decide) fl_X3_29 rfl dX3_fault_24 (q := 27) rfl ?_
    refine pw_aload_n hX rfl dX3_fault_27 (q := 28) rfl ?_
    refine pw_getR hX 1 (by decide) fl_X3_16 rfl dX3_fault_28 (q := 31) rfl ?_
    refine pw_cvV1 hX dX3_fault_31 (q := 34) rfl mi_X1_carryOut ml_X3_207 rcO ⟨rfl, rfl, by decide, by decide⟩ rfl (Nat.le_of_ble_eq_true rfl) (CtV.o (c_X1_carryOut h17 hl hT hG)) ?_
    refine pw_aload_n hX rfl dX3_fault_34 (q := 35) rfl ?_
    refine pw_getR hX 3 (by decide) fl_X3_29 rfl dX3_fault_35 (q := 38) rfl ?_
    refine pw_getON hX 5 (by decide) fn_X3_210 rfl dX3_fault_38 (q := 41) rfl ?_
    repeat first | rw [q_7 h17]
    refine pw_ifN_ne hX (by first | omega | (have h9 := kCarry_r (kCp (w.1 1) (w.1 0)) (w.1 7); omega)) (tgt := 47) dX3_fault_41 (q := 44) rfl (by decide) (fun h_41 => ?_) (fun h_41 => ?_)
    · refine pw_iload_n hX rfl dX3_fault_47 (q := 48) rfl ?_
      refine pw_if_ne hX (tgt := 61) dX3_fault_48 (q := 51) rfl (by decide) (fun h_48 => ?_) (fun h_48 => ?_)
      · refine pw_aload_n hX rfl dX3_fault_61 (q := 62) rfl ?_
        refine pw_getR hX 3 (by decide) fl_X3_29 rfl dX3_fault_62 (q := 65) rfl ?_
        refine pw_getON hX 5 (by decide) fn_X3_210 rfl dX3_fault_65 (q := 68) rfl ?_
        repeat first | rw [q_7 h17]
        refine pw_ireturn hX dX3_fault_68 ⟨_, rfl, rfl⟩ ⟨congrArg (fun z => some (Value.int z)) ?_, ?_⟩
        · rw [qFl, if_pos hv, if_neg h_41]; first | (rw [if_pos h_48]; done) | (rw [if_neg h_48]; done)
        · rw [if_pos hv]
      · refine pw_aload_n hX rfl dX3_fault_51 (q := 52) rfl ?_
        refine pw_getR hX 3 (by decide) fl_X3_29 rfl dX3_fault_52 (q := 55) rfl ?_
        refine pw_getON hX 4 (by decide) fn_X3_213 rfl dX3_fault_55 (q := 58) rfl ?_
        repeat first | rw [q_7 h17]
        refine pw_goto hX (tgt := 68) dX3_fault_58 (by decide) ?_
        refine pw_ireturn hX dX3_fault_68 ⟨_, rfl, rfl⟩ ⟨congrArg (fun z => some (Value.int z)) ?_, ?_⟩
        · rw [qFl, if_pos hv, if_neg h_41]; first | (rw [if_pos h_48]; done) | (rw [if_neg h_48]; done)
        · rw [if_pos hv]
    · refine pw_ldc hX cn_X3_84 dX3_fault_44 (q := 46) rfl ?_
      refine pw_ireturn hX dX3_fault_46 ⟨_, rfl, rfl⟩ ⟨congrArg (fun z => some (Value.int z)) ?_, ?_⟩
      · rw [qFl, if_pos hv, if_pos h_41]
      · rw [if_pos hv]
  · refine pw_iload_n hX rfl dX3_fault_0 (q := 1) rfl ?_
    refine pw_if_eq hX (tgt := 12) dX3_fault_1 (q := 4) rfl (by decide) (fun h_1 => ?_) (fun h_1 => ?_)
    · first | exact J0 (Or.inl h_1) | exact J0 (Or.inr h_6)
    · refine pw_iload_n hX rfl dX3_fault_4 (q := 5) rfl ?_
      refine pw_iconst hX (k := 1) rfl (by decide) dX3_fault_5 (q := 6) rfl ?_
      refine pw_icmp_eq hX (tgt := 12) dX3_fault_6 (q := 9) rfl (by decide) (fun h_6 => ?_) (fun h_6 => ?_)
      · first | exact J0 (Or.inl h_1) | exact J0 (Or.inr h_6)
      · refine pw_ldc hX cn_X3_61 dX3_fault_9 (q := 11) rfl ?_
        refine pw_ireturn hX dX3_fault_11 ⟨_, rfl, rfl⟩ ⟨congrArg (fun z => some (Value.int z)) ?_, ?_⟩
        · rw [qFl, if_neg (fun z => z.elim h_1 h_6)]
        · rw [if_neg (fun z => z.elim h_1 h_6)]
abbrev rm_X3_play : Room := { frames := 8, cells := 0, slots := 0, locals := 188 }
set_option maxHeartbeats 800000 in
set_option maxRecDepth 20000 in
theorem c_X3_play {l : Launch} {g : Geo} {w : WD} (hH : HH w) (hl : w.1 7 0 1 ≤ 60) (hT : ∀ j, j < 60 → w.1 7 1 j < 65536) (hG : cOk (kCp (w.1 1) (w.1 0)) (w.1 7)) : CtI l g yX3_play cX3_play 1 (some .int) rm_X3_play [.ref (g_ad g 10 0)] (w) (qPl w) (qPlW w) := by
  refine ct_of mi_X3_play.2.2.2.2.2 ⟨rfl, rfl⟩ (List.forall_mem_cons.mpr ⟨rfl, fun _ h => absurd h List.not_mem_nil⟩) (Nat.le_of_ble_eq_true rfl) (fun P hX => ?_)
  replace hX : Gd l g RX3 cX3_play rm_X3_play 1 (some .int) _ _ P := hX
  show P (w) 0 [some (.ref (g_ad g 10 0))] []
  have hH1 : HH (qW1 w) := HH_wO (HH_wO hH _ (by decide)) _ (by decide)
  have hQ : (wO (Prep (qW1 w)) 0 (kCp ((Prep (qW1 w)).1 0) ((Prep (qW1 w)).1 1))).1 7 = (qX w).2 := by rw [wO_n _ _ (by decide), wO_n _ _ (show 7 ≠ (qW1 w).2 ((qW1 w).1 8 0 1) by have := hH1.s; omega)]; exact q_7 h17
  refine pw_aload_n hX rfl dX3_play_0 (q := 1) rfl ?_
  refine pw_getR hX 1 (by decide) fl_X3_16 rfl dX3_play_1 (q := 4) rfl ?_
  refine pw_aload_n hX rfl dX3_play_4 (q := 5) rfl ?_
  refine pw_getR hX 0 (by decide) fl_X3_10 rfl dX3_play_5 (q := 8) rfl ?_
  refine pw_cvV1 hX dX3_play_8 (q := 11) rfl mi_X2_copyFrom ml_X3_143 (rcV (show 1 < 7 by decide)) ⟨rfl, rfl, by decide, by decide⟩ rfl (Nat.le_of_ble_eq_true rfl) (c_X2_copyFrom h17 h07 (by decide)).at ?_
  refine pw_aload_n hX rfl dX3_play_11 (q := 12) rfl ?_
  refine pw_getR hX 3 (by decide) fl_X3_29 rfl dX3_play_12 (q := 15) rfl ?_
  refine pw_aload_n hX rfl dX3_play_15 (q := 16) rfl ?_
  refine pw_getR hX 1 (by decide) fl_X3_16 rfl dX3_play_16 (q := 19) rfl ?_
  refine pw_cvV1 hX dX3_play_19 (q := 22) rfl mi_X1_carryOut ml_X3_207 rcO ⟨rfl, rfl, by decide, by decide⟩ rfl (Nat.le_of_ble_eq_true rfl) (CtV.o (c_X1_carryOut h17 hl hT hG)) ?_
  refine pw_aload_n hX rfl dX3_play_22 (q := 23) rfl ?_
  refine pw_getR hX 3 (by decide) fl_X3_29 rfl dX3_play_23 (q := 26) rfl ?_
  refine pw_getON hX 5 (by decide) fn_X3_210 rfl dX3_play_26 (q := 29) rfl ?_
  repeat first | rw [q_7 h17] | rw [hQ]
  refine pw_ifN_eq hX (by first | omega | (have h9 := kCarry_r (kCp (w.1 1) (w.1 0)) (w.1 7); omega)) (tgt := 35) dX3_play_29 (q := 32) rfl (by decide) (fun h_29 => ?_) (fun h_29 => ?_)
  · refine pw_aload_n hX rfl dX3_play_35 (q := 36) rfl ?_
    refine pw_getR hX 2 (by decide) fl_X3_22 rfl dX3_play_36 (q := 39) rfl ?_
    refine pw_aload_n hX rfl dX3_play_39 (q := 40) rfl ?_
    refine pw_getR hX 0 (by decide) fl_X3_10 rfl dX3_play_40 (q := 43) rfl ?_
    refine pw_cvV1 hX dX3_play_43 (q := 46) rfl mi_X0_prepare ml_X3_33 rcH ⟨rfl, rfl, by decide, by decide⟩ rfl (Nat.le_of_ble_eq_true rfl) (c_X0_prepare hH1.k hH1.s h07 hH1.n) ?_
    refine pw_aload_n hX rfl dX3_play_46 (q := 47) rfl ?_
    refine pw_getR hX 0 (by decide) fl_X3_10 rfl dX3_play_47 (q := 50) rfl ?_
    refine pw_aload_n hX rfl dX3_play_50 (q := 51) rfl ?_
    refine pw_getR hX 1 (by decide) fl_X3_16 rfl dX3_play_51 (q := 54) rfl ?_
    refine pw_cvV1 hX dX3_play_54 (q := 57) rfl mi_X2_copyFrom ml_X3_143 (rcV (show 0 < 7 by decide)) ⟨rfl, rfl, by decide, by decide⟩ rfl (Nat.le_of_ble_eq_true rfl) (c_X2_copyFrom h07 h17 (by decide)).at ?_
    refine pw_aload_n hX rfl dX3_play_57 (q := 58) rfl ?_
    refine pw_aload_n hX rfl dX3_play_58 (q := 59) rfl ?_
    refine pw_getR hX 3 (by decide) fl_X3_29 rfl dX3_play_59 (q := 62) rfl ?_
    refine pw_getON hX 3 (by decide) fn_X3_216 rfl dX3_play_62 (q := 65) rfl ?_
    repeat first | rw [q_7 h17] | rw [hQ]
    refine pw_cvI1 hX dX3_play_65 (q := 68) rfl mi_X3_recorded ml_X3_41 rcR ⟨rfl, rfl, by decide, by decide⟩ rfl (Nat.le_of_ble_eq_true rfl) (c_X3_recorded (HH_wO (Prep_H hH1) _ (by decide))) ?_
    refine pw_ireturn hX dX3_play_68 ⟨_, rfl, rfl⟩ ⟨congrArg (fun z => some (Value.int z)) ?_, ?_⟩
    · rw [qPl, if_pos h_29]
    · rw [qPlW, if_pos h_29]
  · refine pw_ldc hX cn_X3_142 dX3_play_32 (q := 34) rfl ?_
    refine pw_ireturn hX dX3_play_34 ⟨_, rfl, rfl⟩ ⟨congrArg (fun z => some (Value.int z)) ?_, ?_⟩
    · rw [qPl, if_neg h_29]
    · rw [qPlW, if_neg h_29]
