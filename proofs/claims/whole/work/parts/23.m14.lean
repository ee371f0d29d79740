theorem kHn_0 (V : Nat → Nat → Nat) (t f p : Nat) : kHn V t f p 0 = V 0 ∧ kHn V t f p 1 = V 1 := by
  unfold kHn kH2 kH1
  split
  · exact ⟨rfl, rfl⟩
  · exact ⟨rfl, rfl⟩
theorem kSh_0 (V : Nat → Nat → Nat) (a b t : Nat) : kSh V a b t 0 = V 0 ∧ kSh V a b t 1 = V 1 := by
  unfold kSh
  split
  · exact ⟨rfl, rfl⟩
  · exact ⟨rfl, rfl⟩
theorem kSt_0 (V : Nat → Nat → Nat) (a b t : Nat) : kSt V a b t 0 = V 0 ∧ kSt V a b t 1 = V 1 := by
  unfold kSt
  rw [(kSh_0 _ a b t).1, (kSh_0 _ a b t).2]
  split
  · exact ⟨rfl, rfl⟩
  · exact kHn_0 _ _ _ _
theorem kTt_0 (V : Nat → Nat → Nat) (a b : Nat) : ∀ t, (kTt V a b t).1 0 = V 0 ∧ (kTt V a b t).1 1 = V 1
  | 0 => ⟨rfl, rfl⟩
  | t + 1 => by
    rw [kTt_s]
    dsimp only
    rw [(kSt_0 _ a b t).1, (kSt_0 _ a b t).2]
    exact kTt_0 V a b t
theorem kTk_0 (V : Nat → Nat → Nat) (a b : Nat) : (kTk V a b).1 0 = V 0 := by unfold kTk; exact (kTt_0 V a b 12).1
theorem kTk_1 (V : Nat → Nat → Nat) (a b : Nat) : (kTk V a b).1 1 = V 1 := by unfold kTk; exact (kTt_0 V a b 12).2
theorem kMi_b {V : Nat → Nat → Nat} (h : bV V) : ∀ v, v ≤ V 0 0 → bV (kMi V v).1 ∧ (kMi V v).1 0 = V 0 ∧ (kMi V v).2.1 ≤ v ∧ (kMi V v).2.2 ≤ v
  | 0, _ => ⟨h, rfl, Nat.le_refl _, Nat.le_refl _⟩
  | v + 1, hv => by
    have h7 := h.2.2.2.1
    obtain ⟨h1, h2, h3, h4⟩ := kMi_b h v (by omega)
    rw [kMi_s]
    split
    · split
      · exact ⟨h1, h2, Nat.le_refl _, Nat.le_refl _⟩
      · refine ⟨?_, ?_, ?_, ?_⟩
        · dsimp only
          exact bV_Tk (a := (kMi V v).2.2 - 1) (b := v) h1 (by omega) (by omega)
        · dsimp only
          rw [kTk_0]; exact h2
        · dsimp only; omega
        · exact Nat.le_refl _
    · exact ⟨h1, h2, by omega, by omega⟩
def kMeetIn (V : Nat → Nat → Nat) : Nat → Nat → Nat := if 2 < kMany (kMi V (V 0 0)).1 0 then (kTk (kMi V (V 0 0)).1 ((kMi V (V 0 0)).2.2 - 1) ((kMi V (V 0 0)).2.1 - 1)).1 else (kMi V (V 0 0)).1
theorem kMi_1 (V : Nat → Nat → Nat) : ∀ v, (kMi V v).1 1 = V 1
  | 0 => rfl
  | v + 1 => by
    rw [kMi_s]
    split
    · split
      · exact kMi_1 V v
      · dsimp only; rw [kTk_1]; exact kMi_1 V v
    · exact kMi_1 V v
theorem kMi_c (V : Nat → Nat → Nat) : ∀ v, ((kMi V v).2.2 = 0 → cnt (fun v => decide (V 1 v = 0)) v = 0) ∧ ((kMi V v).2.1 = 0 → cnt (fun v => decide (V 1 v = 0)) v = 0)
  | 0 => ⟨fun _ => rfl, fun _ => rfl⟩
  | v + 1 => by
    obtain ⟨h1, h2⟩ := kMi_c V v
    rw [kMi_s, kMi_1, cnt_s]
    by_cases hv : V 1 v = 0
    · rw [if_pos hv]
      split
      · exact ⟨fun z => absurd z (by simp), fun z => absurd z (by simp)⟩
      · rename_i hne
        refine ⟨fun z => absurd z (by simp), fun z => ?_⟩
        have h3 := h2 z
        exfalso
        revert hne z
        dsimp only
        intro hne z
        have hz : ∀ u, (kMi V u).2.1 = 0 → (kMi V u).2.2 = 0 := by
          intro u
          induction u with
          | zero => intro _; rfl
          | succ u ih =>
            rw [kMi_s]
            split
            · split
              · intro z; exact absurd z (by simp)
              · rename_i hq; intro z; exact absurd (ih z) hq
            · exact ih
        exact hne (hz v z)
    · rw [if_neg hv, decide_eq_false hv, if_neg (by decide)]
      exact ⟨h1, h2⟩
abbrev rm_X2_holdersOfNewest : Room := { frames := 1, cells := 0, slots := 0, locals := 21 }
set_option maxHeartbeats 800000 in
set_option maxRecDepth 20000 in
theorem c_X2_holdersOfNewest {l : Launch} {g : Geo} {w : WD} {V : Nat → Nat → Nat} {o : Nat} {j : Nat} (ho : o < 7) (hV : bV V) (hj : j < 12) : CtI l g yX2_holdersOfNewest cX2_holdersOfNewest 6 (some .int) rm_X2_holdersOfNewest [.ref (g_ad g o 0), .int (nI j)] (wO w o V) (nI (kHo V j (V 0 0)).2) (wO w o V) := by
  refine ct_of mi_X2_holdersOfNewest.2.2.2.2.2 ⟨rfl, rfl⟩ (List.forall_mem_cons.mpr ⟨rfl, List.forall_mem_cons.mpr ⟨rfl, fun _ h => absurd h List.not_mem_nil⟩⟩) (Nat.le_of_ble_eq_true rfl) (fun P hX => ?_)
  replace hX : Gd l g RX2 cX2_holdersOfNewest rm_X2_holdersOfNewest 6 (some .int) _ _ P := hX
  show P (wO w o V) 0 [some (.ref (g_ad g o 0)), some (.int (nI j)), none, none, none, none] []
  have h7 := hV.2.2.2.1
  refine pw_iconst hX (k := 0) rfl (by decide) dX2_holdersOfNewest_0 (q := 1) rfl ?_
  refine pw_istore_n hX (by decide) dX2_holdersOfNewest_1 (q := 2) rfl ?_
  refine pw_iconst hX (k := 0) rfl (by decide) dX2_holdersOfNewest_2 (q := 3) rfl ?_
  refine pw_istore_n hX (by decide) dX2_holdersOfNewest_3 (q := 4) rfl ?_
  refine pw_iconst hX (k := 0) rfl (by decide) dX2_holdersOfNewest_4 (q := 5) rfl ?_
  refine pw_istore hX (by decide) dX2_holdersOfNewest_5 (q := 7) rfl ?_
  suffices L : ∀ v, v ≤ V 0 0 → P (wO w o V) 7 [some (.ref (g_ad g o 0)), some (.int (nI j)), some (.int (nI (kHo V j v).1)), some (.int (nI (kHo V j v).2)), some (.int (nI v)), none] [] by exact L 0 (Nat.zero_le _)
  refine loopUp (fun v hv ih => ?_)
  have hkb := kHo_b hV hj v (by omega)
  refine pw_iload hX rfl dX2_holdersOfNewest_7 (q := 9) rfl ?_
  refine pw_aload_n hX rfl dX2_holdersOfNewest_9 (q := 10) rfl ?_
  refine pw_getVF hX ho 0 (by decide) fl_X2_9 rfl dX2_holdersOfNewest_10 (q := 13) rfl ?_
  refine pw_icmpN_ge hX (by first | omega | exact bV_0 hV | exact bV84 hV (by decide) (by omega)) (by first | omega | exact bV_0 hV | exact bV84 hV (by decide) (by omega)) (tgt := 64) dX2_holdersOfNewest_13 (q := 16) rfl (by decide) (fun h_13 => ?_) (fun h_13 => ?_)
  · refine pw_iload_n hX rfl dX2_holdersOfNewest_64 (q := 65) rfl ?_
    refine pw_ireturn hX dX2_holdersOfNewest_65 ⟨_, rfl, rfl⟩ ⟨congrArg (fun z => some (Value.int z)) ?_, ?_⟩
    · rw [show v = V 0 0 by omega]
    · rfl
  · refine pw_aload_n hX rfl dX2_holdersOfNewest_16 (q := 17) rfl ?_
    refine pw_getVF hX ho 8 (by decide) fl_X2_37 rfl dX2_holdersOfNewest_17 (q := 20) rfl ?_
    refine pw_iload hX rfl dX2_holdersOfNewest_20 (q := 22) rfl ?_
    refine pw_iload_n hX rfl dX2_holdersOfNewest_22 (q := 23) rfl ?_
    refine pw_cnI2 hX dX2_holdersOfNewest_23 (q := 26) rfl mi_X3_place mn_X2_88 ⟨rfl, rfl, by decide, by decide⟩ rfl (Nat.le_of_ble_eq_true rfl) (c_X3_place) ?_
    refine pw_ialdVF hX ho 5 (by decide) (show _ < 84 by omega) dX2_holdersOfNewest_26 (q := 27) rfl ?_
    refine pw_istore hX (by decide) dX2_holdersOfNewest_27 (q := 29) rfl ?_
    refine pw_iload hX rfl dX2_holdersOfNewest_29 (q := 31) rfl ?_
    refine pw_iload_n hX rfl dX2_holdersOfNewest_31 (q := 32) rfl ?_
    refine pw_icmpN_le hX (by first | omega | exact bV_0 hV | exact bV84 hV (by decide) (by omega)) (by first | omega | exact bV_0 hV | exact bV84 hV (by decide) (by omega)) (tgt := 40) dX2_holdersOfNewest_32 (q := 35) rfl (by decide) (fun h_32 => ?_) (fun h_32 => ?_)
    · refine pw_iload hX rfl dX2_holdersOfNewest_40 (q := 42) rfl ?_
      refine pw_ifN_eq hX (by first | omega | exact bV_0 hV | exact bV84 hV (by decide) (by omega)) (tgt := 58) dX2_holdersOfNewest_42 (q := 45) rfl (by decide) (fun h_42 => ?_) (fun h_42 => ?_)
      · refine pw_iinc hX rfl (by decide) (inc1 _) dX2_holdersOfNewest_58 (q := 61) rfl ?_
        refine pw_goto hX (tgt := 7) dX2_holdersOfNewest_61 (by decide) ?_
        have e : kHo V j (v + 1) = ((kHo V j v).1, (kHo V j v).2) := by rw [kHo_s]; rw [mx_l (by omega), if_neg (by omega)]
        refine pw_fg hX (lv' := [some (.ref (g_ad g o 0)), some (.int (nI j)), some (.int (nI ((kHo V j v).1))), some (.int (nI ((kHo V j v).2))), some (.int (nI (v + 1))), none]) (by repeat first | exact lle_nil | refine lle_cons ?_ | refine lle_none ?_) (pw_eq rfl (by rw [e]) rfl (ih (by omega)))
      · refine pw_iload hX rfl dX2_holdersOfNewest_45 (q := 47) rfl ?_
        refine pw_iload_n hX rfl dX2_holdersOfNewest_47 (q := 48) rfl ?_
        refine pw_icmpN_ne hX (by first | omega | exact bV_0 hV | exact bV84 hV (by decide) (by omega)) (by first | omega | exact bV_0 hV | exact bV84 hV (by decide) (by omega)) (tgt := 58) dX2_holdersOfNewest_48 (q := 51) rfl (by decide) (fun h_48 => ?_) (fun h_48 => ?_)
        · refine pw_iinc hX rfl (by decide) (inc1 _) dX2_holdersOfNewest_58 (q := 61) rfl ?_
          refine pw_goto hX (tgt := 7) dX2_holdersOfNewest_61 (by decide) ?_
          have e : kHo V j (v + 1) = ((kHo V j v).1, (kHo V j v).2) := by rw [kHo_s]; rw [mx_l (by omega), if_neg (by omega)]
          refine pw_fg hX (lv' := [some (.ref (g_ad g o 0)), some (.int (nI j)), some (.int (nI ((kHo V j v).1))), some (.int (nI ((kHo V j v).2))), some (.int (nI (v + 1))), none]) (by repeat first | exact lle_nil | refine lle_cons ?_ | refine lle_none ?_) (pw_eq rfl (by rw [e]) rfl (ih (by omega)))
        · refine pw_iload_n hX rfl dX2_holdersOfNewest_51 (q := 52) rfl ?_
          refine pw_iconst hX (k := 1) rfl (by decide) dX2_holdersOfNewest_52 (q := 53) rfl ?_
          refine pw_iload hX rfl dX2_holdersOfNewest_53 (q := 55) rfl ?_
          refine pw_ishl1 hX (by omega) dX2_holdersOfNewest_55 (q := 56) rfl ?_
          refine pw_iorN hX dX2_holdersOfNewest_56 (q := 57) rfl ?_
          refine pw_istore_n hX (by decide) dX2_holdersOfNewest_57 (q := 58) rfl ?_
          refine pw_iinc hX rfl (by decide) (inc1 _) dX2_holdersOfNewest_58 (q := 61) rfl ?_
          refine pw_goto hX (tgt := 7) dX2_holdersOfNewest_61 (by decide) ?_
          have e : kHo V j (v + 1) = ((kHo V j v).1, (kHo V j v).2 ||| 2 ^ v) := by rw [kHo_s]; rw [mx_l (by omega), if_pos (by omega), if_neg (by omega)]
          refine pw_fg hX (lv' := [some (.ref (g_ad g o 0)), some (.int (nI j)), some (.int (nI ((kHo V j v).1))), some (.int (nI ((kHo V j v).2 ||| 2 ^ v))), some (.int (nI (v + 1))), none]) (by repeat first | exact lle_nil | refine lle_cons ?_ | refine lle_none ?_) (pw_eq rfl (by rw [e]) rfl (ih (by omega)))
    · refine pw_iload hX rfl dX2_holdersOfNewest_35 (q := 37) rfl ?_
      refine pw_istore_n hX (by decide) dX2_holdersOfNewest_37 (q := 38) rfl ?_
      refine pw_iconst hX (k := 0) rfl (by decide) dX2_holdersOfNewest_38 (q := 39) rfl ?_
      refine pw_istore_n hX (by decide) dX2_holdersOfNewest_39 (q := 40) rfl ?_
      refine pw_iload hX rfl dX2_holdersOfNewest_40 (q := 42) rfl ?_
      refine pw_ifN_eq hX (by first | omega | exact bV_0 hV | exact bV84 hV (by decide) (by omega)) (tgt := 58) dX2_holdersOfNewest_42 (q := 45) rfl (by decide) (fun h_42 => ?_) (fun h_42 => ?_)
      · refine pw_iinc hX rfl (by decide) (inc1 _) dX2_holdersOfNewest_58 (q := 61) rfl ?_
        refine pw_goto hX (tgt := 7) dX2_holdersOfNewest_61 (by decide) ?_
        exfalso; omega
      · refine pw_iload hX rfl dX2_holdersOfNewest_45 (q := 47) rfl ?_
        refine pw_iload_n hX rfl dX2_holdersOfNewest_47 (q := 48) rfl ?_
        refine pw_icmpN_ne hX (by first | omega | exact bV_0 hV | exact bV84 hV (by decide) (by omega)) (by first | omega | exact bV_0 hV | exact bV84 hV (by decide) (by omega)) (tgt := 58) dX2_holdersOfNewest_48 (q := 51) rfl (by decide) (fun h_48 => ?_) (fun h_48 => ?_)
        · refine pw_iinc hX rfl (by decide) (inc1 _) dX2_holdersOfNewest_58 (q := 61) rfl ?_
          refine pw_goto hX (tgt := 7) dX2_holdersOfNewest_61 (by decide) ?_
          exfalso; omega
        · refine pw_iload_n hX rfl dX2_holdersOfNewest_51 (q := 52) rfl ?_
          refine pw_iconst hX (k := 1) rfl (by decide) dX2_holdersOfNewest_52 (q := 53) rfl ?_
          refine pw_iload hX rfl dX2_holdersOfNewest_53 (q := 55) rfl ?_
          refine pw_ishl1 hX (by omega) dX2_holdersOfNewest_55 (q := 56) rfl ?_
          refine pw_iorN hX dX2_holdersOfNewest_56 (q := 57) rfl ?_
          refine pw_istore_n hX (by decide) dX2_holdersOfNewest_57 (q := 58) rfl ?_
          refine pw_iinc hX rfl (by decide) (inc1 _) dX2_holdersOfNewest_58 (q := 61) rfl ?_
          refine pw_goto hX (tgt := 7) dX2_holdersOfNewest_61 (by decide) ?_
          have e : kHo V j (v + 1) = (V 5 (v * 12 + j), 0 ||| 2 ^ v) := by rw [kHo_s]; rw [mx_r (by omega), if_pos (by omega), if_pos (by omega)]
          refine pw_fg hX (lv' := [some (.ref (g_ad g o 0)), some (.int (nI j)), some (.int (nI (V 5 (v * 12 + j)))), some (.int (nI (0 ||| 2 ^ v))), some (.int (nI (v + 1))), none]) (by repeat first | exact lle_nil | refine lle_cons ?_ | refine lle_none ?_) (pw_eq rfl (by rw [e]) rfl (ih (by omega)))
abbrev rm_X2_awakeAreAlike : Room := { frames := 2, cells := 0, slots := 0, locals := 45 }
set_option maxHeartbeats 800000 in
set_option maxRecDepth 20000 in
theorem c_X2_awakeAreAlike {l : Launch} {g : Geo} {w : WD} {V : Nat → Nat → Nat} {o : Nat} (ho : o < 7) (hV : bV V) : CtI l g yX2_awakeAreAlike cX2_awakeAreAlike 3 (some .boolean) rm_X2_awakeAreAlike [.ref (g_ad g o 0)] (wO w o V) (bI (kAl V)) (wO w o V) := by
  refine ct_of mi_X2_awakeAreAlike.2.2.2.2.2 ⟨rfl, rfl⟩ (List.forall_mem_cons.mpr ⟨rfl, fun _ h => absurd h List.not_mem_nil⟩) (Nat.le_of_ble_eq_true rfl) (fun P hX => ?_)
  replace hX : Gd l g RX2 cX2_awakeAreAlike rm_X2_awakeAreAlike 3 (some .boolean) _ _ P := hX
  show P (wO w o V) 0 [some (.ref (g_ad g o 0)), none, none] []
  have h7 := hV.2.2.2.1
  refine pw_iconstm hX dX2_awakeAreAlike_0 (q := 1) rfl ?_
  refine pw_istore_n hX (by decide) dX2_awakeAreAlike_1 (q := 2) rfl ?_
  refine pw_iconst hX (k := 0) rfl (by decide) dX2_awakeAreAlike_2 (q := 3) rfl ?_
  refine pw_istore_n hX (by decide) dX2_awakeAreAlike_3 (q := 4) rfl ?_
  suffices L : ∀ v, v ≤ V 0 0 → (kAlF V v).1 = true → P (wO w o V) 4 [some (.ref (g_ad g o 0)), some (.int (bv (kAlF V v).2)), some (.int (nI v))] [] by exact L 0 (Nat.zero_le _) rfl
  refine loopUp (fun v hv ih => ?_)
  intro hT
  refine pw_iload_n hX rfl dX2_awakeAreAlike_4 (q := 5) rfl ?_
  refine pw_aload_n hX rfl dX2_awakeAreAlike_5 (q := 6) rfl ?_
  refine pw_getVF hX ho 0 (by decide) fl_X2_9 rfl dX2_awakeAreAlike_6 (q := 9) rfl ?_
  refine pw_icmpN_ge hX (by first | omega | exact bV_0 hV | exact Nat.lt_trans (bits_lt _ 12) (by decide)) (by first | omega | exact bV_0 hV | exact Nat.lt_trans (bits_lt _ 12) (by decide)) (tgt := 44) dX2_awakeAreAlike_9 (q := 12) rfl (by decide) (fun h_9 => ?_) (fun h_9 => ?_)
  · refine pw_iconst hX (k := 1) rfl (by decide) dX2_awakeAreAlike_44 (q := 45) rfl ?_
    refine pw_ireturn hX dX2_awakeAreAlike_45 ⟨_, rfl, by first | exact bI_nar _ | decide | rfl⟩ ⟨congrArg (fun z => some (Value.int z)) ?_, ?_⟩
    · rw [kAl, show V 0 0 = v by omega, hT]; rfl
    · rfl
  · refine pw_aload_n hX rfl dX2_awakeAreAlike_12 (q := 13) rfl ?_
    refine pw_iload_n hX rfl dX2_awakeAreAlike_13 (q := 14) rfl ?_
    refine pw_cvI1 hX dX2_awakeAreAlike_14 (q := 17) rfl mi_X2_isAwake ml_X2_74 (rcV ho) ⟨rfl, rfl, by decide, by decide⟩ rfl (Nat.le_of_ble_eq_true rfl) (c_X2_isAwake ho hV) ?_
    rw [kAw_n (by rw [hasN_nI (by omega)]; exact decide_eq_true (by omega)) (ix_nI (by omega))]
    refine pw_ifB_eq hX (tgt := 38) dX2_awakeAreAlike_17 (q := 20) rfl (by decide) (fun h_17 => ?_) (fun h_17 => ?_)
    · have h_17 := of_decide_eq_false h_17
      refine pw_iinc hX rfl (by decide) (inc1 _) dX2_awakeAreAlike_38 (q := 41) rfl ?_
      refine pw_goto hX (tgt := 4) dX2_awakeAreAlike_41 (by decide) ?_
      have e : kAlF V (v + 1) = kAlF V v := by rw [kAlF_s, if_neg h_17]
      exact pw_eq rfl (by rw [e]; rfl) rfl (ih (by omega) (by rw [e]; exact hT))
    · have h_17 := of_decide_eq_true h_17
      rcases hG : (kAlF V v).2 with _ | e
      · skip
        refine pw_iload_n hX rfl dX2_awakeAreAlike_20 (q := 21) rfl ?_
        refine pw_iconstm hX dX2_awakeAreAlike_21 (q := 22) rfl ?_
        refine pw_icmp_eq hX (tgt := 36) dX2_awakeAreAlike_22 (q := 25) rfl (by decide) (fun h_22 => ?_) (fun h_22 => ?_)
        · refine pw_iload_n hX rfl dX2_awakeAreAlike_36 (q := 37) rfl ?_
          refine pw_istore_n hX (by decide) dX2_awakeAreAlike_37 (q := 38) rfl ?_
          refine pw_iinc hX rfl (by decide) (inc1 _) dX2_awakeAreAlike_38 (q := 41) rfl ?_
          refine pw_goto hX (tgt := 4) dX2_awakeAreAlike_41 (by decide) ?_
          have e : kAlF V (v + 1) = (true, v + 1) := by rw [kAlF_s, if_pos h_17, hT, hG]; rfl
          exact pw_eq rfl (by rw [e]; rfl) rfl (ih (by omega) (by rw [e]))
        · exact absurd (show bv 0 = -1 by decide) h_22
      · rw [bv_s]
        have hel := kAlF_le V v
        refine pw_iload_n hX rfl dX2_awakeAreAlike_20 (q := 21) rfl ?_
        refine pw_iconstm hX dX2_awakeAreAlike_21 (q := 22) rfl ?_
        refine pw_icmp_eq hX (tgt := 36) dX2_awakeAreAlike_22 (q := 25) rfl (by decide) (fun h_22 => ?_) (fun h_22 => ?_)
        · exact absurd h_22 (nI_nn (by omega) (by decide))
        · refine pw_aload_n hX rfl dX2_awakeAreAlike_25 (q := 26) rfl ?_
          refine pw_iload_n hX rfl dX2_awakeAreAlike_26 (q := 27) rfl ?_
          refine pw_iload_n hX rfl dX2_awakeAreAlike_27 (q := 28) rfl ?_
          refine pw_cvI2 hX dX2_awakeAreAlike_28 (q := 31) rfl mi_X2_unlikeTopics ml_X2_151 (rcV ho) ⟨rfl, rfl, by decide, by decide⟩ rfl (Nat.le_of_ble_eq_true rfl) (c_X2_unlikeTopics ho hV (by omega) (by omega)) ?_
          refine pw_ifN_eq hX (by first | omega | exact bV_0 hV | exact Nat.lt_trans (bits_lt _ 12) (by decide)) (tgt := 36) dX2_awakeAreAlike_31 (q := 34) rfl (by decide) (fun h_31 => ?_) (fun h_31 => ?_)
          · refine pw_iload_n hX rfl dX2_awakeAreAlike_36 (q := 37) rfl ?_
            refine pw_istore_n hX (by decide) dX2_awakeAreAlike_37 (q := 38) rfl ?_
            refine pw_iinc hX rfl (by decide) (inc1 _) dX2_awakeAreAlike_38 (q := 41) rfl ?_
            refine pw_goto hX (tgt := 4) dX2_awakeAreAlike_41 (by decide) ?_
            have e2 : kAlF V (v + 1) = (true, v + 1) := by rw [kAlF_s, if_pos h_17, hT, hG, Nat.add_sub_cancel, decide_eq_true h_31, Bool.or_true]; rfl
            exact pw_eq rfl (by rw [e2]; rfl) rfl (ih (by omega) (by rw [e2]))
          · have e2 : (kAlF V (v + 1)).1 = false := by rw [kAlF_s, if_pos h_17, hT, hG, Nat.add_sub_cancel, decide_eq_false h_31]; rfl
            refine pw_iconst hX (k := 0) rfl (by decide) dX2_awakeAreAlike_34 (q := 35) rfl ?_
            refine pw_ireturn hX dX2_awakeAreAlike_35 ⟨_, rfl, by first | exact bI_nar _ | decide | rfl⟩ ⟨congrArg (fun z => some (Value.int z)) ?_, ?_⟩
            · rw [kAl, show V 0 0 = (v + 1) + (V 0 0 - (v + 1)) by omega, kAlF_f e2]; rfl
            · rfl
abbrev rm_X2_meetInTurn : Room := { frames := 4, cells := 0, slots := 0, locals := 98 }
set_option maxHeartbeats 800000 in
set_option maxRecDepth 20000 in
theorem c_X2_meetInTurn {l : Launch} {g : Geo} {w : WD} {V : Nat → Nat → Nat} {o : Nat} (ho : o < 7) (hV : bV V) : CtV l g yX2_meetInTurn cX2_meetInTurn 4 none rm_X2_meetInTurn [.ref (g_ad g o 0)] (wO w o V) (wO w o (kMeetIn V)) := by
  refine ct_of mi_X2_meetInTurn.2.2.2.2.2 ⟨rfl, rfl⟩ (List.forall_mem_cons.mpr ⟨rfl, fun _ h => absurd h List.not_mem_nil⟩) (Nat.le_of_ble_eq_true rfl) (fun P hX => ?_)
  replace hX : Gd l g RX2 cX2_meetInTurn rm_X2_meetInTurn 4 none _ _ P := hX
  show P (wO w o V) 0 [some (.ref (g_ad g o 0)), none, none, none] []
  have h7 := hV.2.2.2.1
  refine pw_iconstm hX dX2_meetInTurn_0 (q := 1) rfl ?_
  refine pw_istore_n hX (by decide) dX2_meetInTurn_1 (q := 2) rfl ?_
  refine pw_iconstm hX dX2_meetInTurn_2 (q := 3) rfl ?_
  refine pw_istore_n hX (by decide) dX2_meetInTurn_3 (q := 4) rfl ?_
  refine pw_iconst hX (k := 0) rfl (by decide) dX2_meetInTurn_4 (q := 5) rfl ?_
  refine pw_istore_n hX (by decide) dX2_meetInTurn_5 (q := 6) rfl ?_
  suffices L : ∀ v, v ≤ V 0 0 → P (wO w o (kMi V v).1) 6 [some (.ref (g_ad g o 0)), some (.int (bv (kMi V v).2.1)), some (.int (bv (kMi V v).2.2)), some (.int (nI v))] [] by exact L 0 (Nat.zero_le _)
  refine loopUp (fun v hv ih => ?_)
  have hM := kMi_b hV v hv
  have hM0 : (kMi V v).1 0 0 = V 0 0 := congrFun hM.2.1 0
  refine pw_iload_n hX rfl dX2_meetInTurn_6 (q := 7) rfl ?_
  refine pw_aload_n hX rfl dX2_meetInTurn_7 (q := 8) rfl ?_
  refine pw_getVF hX ho 0 (by decide) fl_X2_9 rfl dX2_meetInTurn_8 (q := 11) rfl ?_
  rw [hM0]
  refine pw_icmpN_ge hX (by first | omega | exact bV_0 hM.1) (by first | omega | exact bV_0 hM.1) (tgt := 47) dX2_meetInTurn_11 (q := 14) rfl (by decide) (fun h_11 => ?_) (fun h_11 => ?_)
  · have e47 : v = V 0 0 := by omega
    subst e47
    have hmany : kMany (kMi V (V 0 0)).1 0 = cnt (fun v => decide (V 1 v = 0)) (V 0 0) := by rw [kMany, kMi_1, hM0]
    have hmle := cnt_le (fun v => decide (V 1 v = 0)) (V 0 0)
    refine pw_aload_n hX rfl dX2_meetInTurn_47 (q := 48) rfl ?_
    refine pw_iconst hX (k := 0) rfl (by decide) dX2_meetInTurn_48 (q := 49) rfl ?_
    refine pw_cvI1 hX dX2_meetInTurn_49 (q := 52) rfl mi_X2_howMany ml_X2_78 (rcV ho) ⟨rfl, rfl, by decide, by decide⟩ rfl (Nat.le_of_ble_eq_true rfl) (c_X2_howMany ho hM.1 (by decide)) ?_
    refine pw_iconst hX (k := 2) rfl (by decide) dX2_meetInTurn_52 (q := 53) rfl ?_
    refine pw_icmpN_le hX (by omega) (by omega) (tgt := 63) dX2_meetInTurn_53 (q := 56) rfl (by decide) (fun h_53 => ?_) (fun h_53 => ?_)
    · have er : kMeetIn V = (kMi V (V 0 0)).1 := if_neg (show ¬ 2 < kMany (kMi V (V 0 0)).1 0 by omega)
      refine pw_return hX dX2_meetInTurn_63 rfl ⟨rfl, ?_⟩
      rw [er]
    · have hcc := kMi_c V (V 0 0)
      obtain ⟨fi, hfi⟩ : ∃ fi, (kMi V (V 0 0)).2.1 = fi + 1 := by
        rcases hq : (kMi V (V 0 0)).2.1 with _ | fi
        · have := hcc.2 hq; omega
        · exact ⟨fi, rfl⟩
      obtain ⟨la, hla⟩ : ∃ la, (kMi V (V 0 0)).2.2 = la + 1 := by
        rcases hq : (kMi V (V 0 0)).2.2 with _ | la
        · have := hcc.1 hq; omega
        · exact ⟨la, rfl⟩
      have hb1 := hM.2.2.1
      have hb2 := hM.2.2.2
      rw [hfi, hla, bv_s, bv_s]
      refine pw_aload_n hX rfl dX2_meetInTurn_56 (q := 57) rfl ?_
      refine pw_iload_n hX rfl dX2_meetInTurn_57 (q := 58) rfl ?_
      refine pw_iload_n hX rfl dX2_meetInTurn_58 (q := 59) rfl ?_
      refine pw_cvI2 hX dX2_meetInTurn_59 (q := 62) rfl mi_X2_talk ml_X2_131 (rcV ho) ⟨rfl, rfl, by decide, by decide⟩ rfl (Nat.le_of_ble_eq_true rfl) (c_X2_talk ho hM.1 (by omega) (by omega)) ?_
      refine pw_pop hX rfl dX2_meetInTurn_62 (q := 63) rfl ?_
      have er : kMeetIn V = (kTk (kMi V (V 0 0)).1 la fi).1 := by rw [kMeetIn, if_pos h_53, hfi, hla]; rfl
      refine pw_return hX dX2_meetInTurn_63 rfl ⟨rfl, ?_⟩
      rw [er]
  · refine pw_aload_n hX rfl dX2_meetInTurn_14 (q := 15) rfl ?_
    refine pw_iload_n hX rfl dX2_meetInTurn_15 (q := 16) rfl ?_
    refine pw_cvI1 hX dX2_meetInTurn_16 (q := 19) rfl mi_X2_isAwake ml_X2_74 (rcV ho) ⟨rfl, rfl, by decide, by decide⟩ rfl (Nat.le_of_ble_eq_true rfl) (c_X2_isAwake ho hM.1) ?_
    rw [kAw_n (by rw [hasN_nI (by omega), hM0]; exact decide_eq_true (by omega)) (ix_nI (by omega))]
    refine pw_ifB_eq hX (tgt := 41) dX2_meetInTurn_19 (q := 22) rfl (by decide) (fun h_19 => ?_) (fun h_19 => ?_)
    · have h_19 := of_decide_eq_false h_19
      refine pw_iinc hX rfl (by decide) (inc1 _) dX2_meetInTurn_41 (q := 44) rfl ?_
      refine pw_goto hX (tgt := 6) dX2_meetInTurn_44 (by decide) ?_
      have e : kMi V (v + 1) = kMi V v := by rw [kMi_s, if_neg h_19]
      exact pw_eq (by rw [e]) (by rw [e]; rfl) rfl (ih (by omega))
    · have h_19 := of_decide_eq_true h_19
      rcases hG : (kMi V v).2.2 with _ | e
      · skip
        refine pw_iload_n hX rfl dX2_meetInTurn_22 (q := 23) rfl ?_
        refine pw_iconstm hX dX2_meetInTurn_23 (q := 24) rfl ?_
        refine pw_icmp_ne hX (tgt := 32) dX2_meetInTurn_24 (q := 27) rfl (by decide) (fun h_24 => ?_) (fun h_24 => ?_)
        · exact absurd (show bv 0 = -1 by decide) h_24
        · refine pw_iload_n hX rfl dX2_meetInTurn_27 (q := 28) rfl ?_
          refine pw_istore_n hX (by decide) dX2_meetInTurn_28 (q := 29) rfl ?_
          refine pw_goto hX (tgt := 39) dX2_meetInTurn_29 (by decide) ?_
          refine pw_iload_n hX rfl dX2_meetInTurn_39 (q := 40) rfl ?_
          refine pw_istore_n hX (by decide) dX2_meetInTurn_40 (q := 41) rfl ?_
          refine pw_iinc hX rfl (by decide) (inc1 _) dX2_meetInTurn_41 (q := 44) rfl ?_
          refine pw_goto hX (tgt := 6) dX2_meetInTurn_44 (by decide) ?_
          have e : kMi V (v + 1) = ((kMi V v).1, v + 1, v + 1) := by rw [kMi_s, if_pos h_19, if_pos hG]
          exact pw_eq (by rw [e]) (by rw [e]; rfl) rfl (ih (by omega))
      · rw [bv_s]
        have hel := hM.2.2.2
        refine pw_iload_n hX rfl dX2_meetInTurn_22 (q := 23) rfl ?_
        refine pw_iconstm hX dX2_meetInTurn_23 (q := 24) rfl ?_
        refine pw_icmp_ne hX (tgt := 32) dX2_meetInTurn_24 (q := 27) rfl (by decide) (fun h_24 => ?_) (fun h_24 => ?_)
        · refine pw_aload_n hX rfl dX2_meetInTurn_32 (q := 33) rfl ?_
          refine pw_iload_n hX rfl dX2_meetInTurn_33 (q := 34) rfl ?_
          refine pw_iload_n hX rfl dX2_meetInTurn_34 (q := 35) rfl ?_
          refine pw_cvI2 hX dX2_meetInTurn_35 (q := 38) rfl mi_X2_talk ml_X2_131 (rcV ho) ⟨rfl, rfl, by decide, by decide⟩ rfl (Nat.le_of_ble_eq_true rfl) (c_X2_talk ho hM.1 (by omega) (by omega)) ?_
          refine pw_pop hX rfl dX2_meetInTurn_38 (q := 39) rfl ?_
          refine pw_iload_n hX rfl dX2_meetInTurn_39 (q := 40) rfl ?_
          refine pw_istore_n hX (by decide) dX2_meetInTurn_40 (q := 41) rfl ?_
          refine pw_iinc hX rfl (by decide) (inc1 _) dX2_meetInTurn_41 (q := 44) rfl ?_
          refine pw_goto hX (tgt := 6) dX2_meetInTurn_44 (by decide) ?_
          have e2 : kMi V (v + 1) = ((kTk (kMi V v).1 e v).1, (kMi V v).2.1, v + 1) := by rw [kMi_s, if_pos h_19, if_neg (by omega), hG, Nat.add_sub_cancel]
          exact pw_eq (by rw [e2]) (by rw [e2]; rfl) rfl (ih (by omega))
        · exact absurd h_24 (nI_nn (by omega) (by decide))
