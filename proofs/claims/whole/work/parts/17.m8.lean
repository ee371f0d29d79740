theorem upN_upN (f : Nat → Nat) (k x y : Nat) : upN (upN f k x) k y = upN f k y := by
  funext j; simp only [upN]; split <;> rfl
/-- the reference's parts that a reading of the text uses -/
def tV (V : Nat → Nat → Nat) (a r : Nat) (G : Nat → Nat) : Nat → Nat → Nat := fun b => if b = 0 then upN (upN (V 0) 7 a) 8 r else if b = 6 then G else V b
theorem tV_7 (V : Nat → Nat → Nat) (a r : Nat) (G : Nat → Nat) : tV V a r G 0 7 = a := rfl
theorem tV_8 (V : Nat → Nat → Nat) (a r : Nat) (G : Nat → Nat) : tV V a r G 0 8 = r := rfl
theorem tV_x (V : Nat → Nat → Nat) (a r : Nat) (G : Nat → Nat) : tV V a r G 0 6 = V 0 6 := rfl
theorem tV_k (V : Nat → Nat → Nat) (a r : Nat) (G : Nat → Nat) : tV V a r G 0 4 = V 0 4 := rfl
theorem tV_t (V : Nat → Nat → Nat) (a r : Nat) (G : Nat → Nat) : tV V a r G 5 = V 5 := rfl
theorem tV_g (V : Nat → Nat → Nat) (a r : Nat) (G : Nat → Nat) : tV V a r G 6 = G := rfl
theorem tV_4 (V : Nat → Nat → Nat) (a r : Nat) (G : Nat → Nat) : tV V a r G 4 = V 4 := rfl
theorem tV_p7 (V : Nat → Nat → Nat) (a r x : Nat) (G : Nat → Nat) : vU (tV V a r G) 0 7 x = tV V x r G := by
  funext b j
  by_cases h : b = 0
  · subst h
    simp only [vU, vA, tV, upN, if_true]
    by_cases h7 : j = 7
    · subst h7; rfl
    · simp only [if_neg h7]
  · simp only [vU, vA, tV, if_neg h]
theorem tV_p8 (V : Nat → Nat → Nat) (a r x : Nat) (G : Nat → Nat) : vU (tV V a r G) 0 8 x = tV V a x G := by
  funext b j
  by_cases h : b = 0
  · subst h
    simp only [vU, vA, tV, upN, if_true]
    by_cases h7 : j = 8
    · simp only [if_pos h7]
    · simp only [if_neg h7]
  · simp only [vU, vA, tV, if_neg h]
theorem tV_pg (V : Nat → Nat → Nat) (a r i x : Nat) (G : Nat → Nat) : vU (tV V a r G) 6 i x = tV V a r (upN G i x) := by
  funext b
  by_cases h : b = 6
  · subst h; rfl
  · by_cases h0 : b = 0
    · subst h0; rfl
    · simp only [vU, vA, tV, if_neg h, if_neg h0]
theorem tV_a4 (V : Nat → Nat → Nat) (a r : Nat) (G f : Nat → Nat) : vA (tV V a r G) 4 f = tV (vA V 4 f) a r G := by
  funext b
  by_cases h : b = 4
  · subst h; rfl
  · by_cases h0 : b = 0
    · subst h0; rfl
    · simp only [vA, tV, if_neg h, if_neg h0]
theorem tV_a3 (V : Nat → Nat → Nat) (a r : Nat) (G f : Nat → Nat) : vA (tV V a r G) 3 f = tV (vA V 3 f) a r G := by
  funext b
  by_cases h : b = 3
  · subst h; rfl
  · by_cases h0 : b = 0
    · subst h0; rfl
    · simp only [vA, tV, if_neg h, if_neg h0]
theorem tV_id (V : Nat → Nat → Nat) : tV V (V 0 7) (V 0 8) (V 6) = V := by
  funext b
  by_cases h : b = 0
  · subst h
    funext j
    simp only [tV, upN, if_true]
    by_cases h8 : j = 8
    · subst h8; rfl
    · rw [if_neg h8]
      by_cases h7 : j = 7
      · subst h7; rfl
      · rw [if_neg h7]
  · by_cases h6 : b = 6
    · subst h6; rfl
    · simp only [tV, if_neg h, if_neg h6]
def tHas (T : Nat → Nat) (X a c : Nat) : Bool := decide (a < X ∧ T a = c)
def isD (T : Nat → Nat) (X p : Nat) : Bool := decide (p < X ∧ 48 ≤ T p ∧ T p ≤ 57)
def tLen (T : Nat → Nat) (X a : Nat) : Nat := if isD T X a = true then (if isD T X (a + 1) = true then 2 else 1) else 0
def tVal (T : Nat → Nat) (X a : Nat) : Nat := if isD T X a = true then (if isD T X (a + 1) = true then 10 * (T a - 48) + T (a + 1) - 48 else T a - 48) else 0
theorem tLen_X {T : Nat → Nat} {X a : Nat} (h : a ≤ X) : a + tLen T X a ≤ X := by
  unfold tLen
  split
  · rename_i h1
    have h1 := (of_decide_eq_true h1).1
    split
    · rename_i h2
      have h2 := (of_decide_eq_true h2).1
      omega
    · omega
  · omega
theorem tVal_lt (T : Nat → Nat) (X a : Nat) : tVal T X a < 100 := by
  unfold tVal
  split
  · rename_i h1
    have h1 := (of_decide_eq_true h1).2
    split
    · rename_i h2
      have h2 := (of_decide_eq_true h2).2
      omega
    · omega
  · omega
def tNums (c : Nat) : Nat := if c = 116 then 3 else if c = 98 ∨ c = 109 then 2 else if c = 115 ∨ c = 119 ∨ c = 110 then 1 else 0
theorem tNums_le (c : Nat) : tNums c ≤ 3 := by unfold tNums; (repeat' split) <;> omega
def tNum (T : Nat → Nat) (X a : Nat) (G : Nat → Nat) (i : Nat) : Bool × Nat × (Nat → Nat) := (decide (0 < tLen T X a), a + tLen T X a, upN G i (tVal T X a))
def tR (T : Nat → Nat) (X n a : Nat) (G : Nat → Nat) : Nat → Bool × Nat × (Nat → Nat)
  | 0 => if n = 0 then (false, a, G) else tNum T X a G 0
  | k + 1 => if (tR T X n a G k).1 = true then (if tHas T X (tR T X n a G k).2.1 44 = true then tNum T X ((tR T X n a G k).2.1 + 1) (tR T X n a G k).2.2 (k + 1) else (false, (tR T X n a G k).2)) else tR T X n a G k
theorem tR_s (T : Nat → Nat) (X n a : Nat) (G : Nat → Nat) (k : Nat) : tR T X n a G (k + 1) = if (tR T X n a G k).1 = true then (if tHas T X (tR T X n a G k).2.1 44 = true then tNum T X ((tR T X n a G k).2.1 + 1) (tR T X n a G k).2.2 (k + 1) else (false, (tR T X n a G k).2)) else tR T X n a G k := rfl
theorem tR_f {T : Nat → Nat} {X n a : Nat} {G : Nat → Nat} {k : Nat} (h : (tR T X n a G k).1 = false) : ∀ d, tR T X n a G (k + d) = tR T X n a G k
  | 0 => rfl
  | d + 1 => by
    have h1 := tR_f h d
    rw [← Nat.add_assoc, tR_s, h1, if_neg (by rw [h]; decide)]
theorem tR_X {T : Nat → Nat} {X n a : Nat} {G : Nat → Nat} (h : a ≤ X) : ∀ k, a ≤ (tR T X n a G k).2.1 ∧ (tR T X n a G k).2.1 ≤ X
  | 0 => by
    unfold tR
    split
    · exact ⟨Nat.le_refl _, h⟩
    · exact ⟨Nat.le_add_right _ _, tLen_X h⟩
  | k + 1 => by
    have h1 := tR_X (T := T) (n := n) (G := G) h k
    rw [tR_s]
    split
    · split
      · rename_i h2
        have h2 := (of_decide_eq_true h2).1
        refine ⟨?_, tLen_X (by omega)⟩
        show a ≤ (tR T X n a G k).2.1 + 1 + tLen T X _
        omega
      · exact h1
    · exact h1
def tForm (T : Nat → Nat) (X c a : Nat) (G : Nat → Nat) : Bool × Nat × (Nat → Nat) := if (tR T X (tNums c) a G (tNums c - 1)).1 = true ∧ tHas T X (tR T X (tNums c) a G (tNums c - 1)).2.1 59 = true then (true, (tR T X (tNums c) a G (tNums c - 1)).2.1 + 1, (tR T X (tNums c) a G (tNums c - 1)).2.2) else (false, (tR T X (tNums c) a G (tNums c - 1)).2)
theorem tForm_X {T : Nat → Nat} {X c a : Nat} {G : Nat → Nat} (h : a ≤ X) : a ≤ (tForm T X c a G).2.1 ∧ (tForm T X c a G).2.1 ≤ X := by
  have h1 := tR_X (T := T) (n := tNums c) (G := G) h (tNums c - 1)
  unfold tForm
  split
  · rename_i h2
    have h2 := (of_decide_eq_true h2.2).1
    exact ⟨by show a ≤ _ + 1; omega, h2⟩
  · exact h1
def tThere (S : Nat → Nat) (c : Nat) (G : Nat → Nat) : Bool := (decide (c = 110) || hasN (S 0) (nI (G 0))) && (if c = 109 then hasN (S 0) (nI (G 1)) else if c = 116 ∨ c = 98 then hasN 12 (nI (G 1)) else true)
def mDoes (S : Nat → Nat) (c : Nat) (G : Nat → Nat) : (Nat → Nat) × Int32 := if c = 98 then mBuries S (nI (G 0)) (nI (G 1)) else if c = 109 then mMeets1 S (nI (G 0)) (nI (G 1)) else if c = 115 then mSleeps S (nI (G 0)) else if c = 116 then mTells S (nI (G 0)) (nI (G 1)) (nI (G 2)) (nI 0) else if c = 119 then mWakes S (nI (G 0)) else mTicks S (nI (G 0))
theorem swX4 (c : Nat) : Op.lookupswitch.offset [((98 : Int), (75 : Int)), (109, 92), (115, 109), (116, 51), (119, 120)] 131 (c : Int) = if c = 98 then 75 else if c = 109 then 92 else if c = 115 then 109 else if c = 116 then 51 else if c = 119 then 120 else 131 := by
  simp only [Op.lookupswitch.offset_cons, Op.lookupswitch.offset_nil]
  have e : ∀ n : Nat, ((n : Int) = (c : Int)) = (c = n) := fun n => propext ⟨fun h => by omega, fun h => by omega⟩
  rw [show (98 : Int) = ((98 : Nat) : Int) from rfl, show (109 : Int) = ((109 : Nat) : Int) from rfl, show (115 : Int) = ((115 : Nat) : Int) from rfl, show (116 : Int) = ((116 : Nat) : Int) from rfl, show (119 : Int) = ((119 : Nat) : Int) from rfl]
  simp only [e]
abbrev rm_X4_has : Room := { frames := 0, cells := 0, slots := 0, locals := 0 }
set_option maxHeartbeats 800000 in
set_option maxRecDepth 20000 in
theorem c_X4_has {l : Launch} {g : Geo} {w : WD} {V : Nat → Nat → Nat} {S : Nat → Nat} {a r : Nat} {G : Nat → Nat} {c : Nat} (hc : c < 2 ^ 31) (h6 : V 0 6 ≤ 60) (ha : a ≤ V 0 6) (hT : ∀ j, j < 60 → V 5 j < 65536) : CtI l g yX4_has cX4_has 3 (some .boolean) rm_X4_has [.ref (g_ad g 9 0), .int (nI c)] (mW w (tV V a r G) S) (bI (tHas (V 5) (V 0 6) a c)) (mW w (tV V (a + if tHas (V 5) (V 0 6) a c = true then 1 else 0) r G) S) := by
  refine ct_of mi_X4_has.2.2.2.2.2 ⟨rfl, rfl⟩ (List.forall_mem_cons.mpr ⟨rfl, List.forall_mem_cons.mpr ⟨rfl, fun _ h => absurd h List.not_mem_nil⟩⟩) (Nat.le_of_ble_eq_true rfl) (fun P hX => ?_)
  replace hX : Gd l g RX4 cX4_has rm_X4_has 3 (some .boolean) _ _ P := hX
  show P (mW w (tV V a r G) S) 0 [some (.ref (g_ad g 9 0)), some (.int (nI c)), none] []
  refine pw_aload_n hX rfl dX4_has_0 (q := 1) rfl ?_
  refine pw_getMS hX 7 (by decide) fl_X4_157 rfl dX4_has_1 (q := 4) rfl ?_
  repeat first | rw [tV_7] | rw [tV_8] | rw [tV_x] | rw [tV_t] | rw [tV_g] | rw [tV_p7] | rw [tV_p8] | rw [tV_pg] | rw [upN_s]
  refine pw_aload_n hX rfl dX4_has_4 (q := 5) rfl ?_
  refine pw_getMS hX 6 (by decide) fl_X4_154 rfl dX4_has_5 (q := 8) rfl ?_
  repeat first | rw [tV_7] | rw [tV_8] | rw [tV_x] | rw [tV_t] | rw [tV_g] | rw [tV_p7] | rw [tV_p8] | rw [tV_pg] | rw [upN_s]
  refine pw_icmpN_ge hX (by first | omega | (have h9 := hT a (by omega); omega)) (by first | omega | (have h9 := hT a (by omega); omega)) (tgt := 28) dX4_has_8 (q := 11) rfl (by decide) (fun h_8 => ?_) (fun h_8 => ?_)
  · have hh : tHas (V 5) (V 0 6) a c = false := decide_eq_false (by omega)
    refine pw_iconst hX (k := 0) rfl (by decide) dX4_has_28 (q := 29) rfl ?_
    refine pw_istore_n hX (by decide) dX4_has_29 (q := 30) rfl ?_
    refine pw_aload_n hX rfl dX4_has_30 (q := 31) rfl ?_
    refine pw_dup hX rfl dX4_has_31 (q := 32) rfl ?_
    refine pw_getMS hX 7 (by decide) fl_X4_157 rfl dX4_has_32 (q := 35) rfl ?_
    repeat first | rw [tV_7] | rw [tV_8] | rw [tV_x] | rw [tV_t] | rw [tV_g] | rw [tV_p7] | rw [tV_p8] | rw [tV_pg] | rw [upN_s]
    refine pw_iload_n hX rfl dX4_has_35 (q := 36) rfl ?_
    refine pw_ifN_eq hX (by first | omega | (have h9 := hT a (by omega); omega)) (tgt := 43) dX4_has_36 (q := 39) rfl (by decide) (fun h_36 => ?_) (fun h_36 => ?_)
    · refine pw_iconst hX (k := 0) rfl (by decide) dX4_has_43 (q := 44) rfl ?_
      refine pw_iaddN hX dX4_has_44 (q := 45) rfl ?_
      refine pw_putMS hX 7 (by decide) fl_X4_157 dX4_has_45 (q := 48) rfl ?_
      repeat first | rw [tV_7] | rw [tV_8] | rw [tV_x] | rw [tV_t] | rw [tV_g] | rw [tV_p7] | rw [tV_p8] | rw [tV_pg] | rw [upN_s]
      refine pw_iload_n hX rfl dX4_has_48 (q := 49) rfl ?_
      refine pw_ireturn hX dX4_has_49 ⟨_, rfl, by first | exact bI_nar _ | decide | rfl⟩ ⟨congrArg (fun z => some (Value.int z)) ?_, ?_⟩
      · rw [hh]; rfl
      · rw [hh]; rfl
    · exact absurd rfl h_36
  · refine pw_aload_n hX rfl dX4_has_11 (q := 12) rfl ?_
    refine pw_getMS hX 5 (by decide) fl_X4_22 rfl dX4_has_12 (q := 15) rfl ?_
    refine pw_aload_n hX rfl dX4_has_15 (q := 16) rfl ?_
    refine pw_getMS hX 7 (by decide) fl_X4_157 rfl dX4_has_16 (q := 19) rfl ?_
    repeat first | rw [tV_7] | rw [tV_8] | rw [tV_x] | rw [tV_t] | rw [tV_g] | rw [tV_p7] | rw [tV_p8] | rw [tV_pg] | rw [upN_s]
    refine pw_caldMS hX (by omega) dX4_has_19 (q := 20) rfl ?_
    repeat first | rw [tV_7] | rw [tV_8] | rw [tV_x] | rw [tV_t] | rw [tV_g] | rw [tV_p7] | rw [tV_p8] | rw [tV_pg] | rw [upN_s]
    refine pw_iload_n hX rfl dX4_has_20 (q := 21) rfl ?_
    refine pw_icmpN_ne hX (by first | omega | (have h9 := hT a (by omega); omega)) (by first | omega | (have h9 := hT a (by omega); omega)) (tgt := 28) dX4_has_21 (q := 24) rfl (by decide) (fun h_21 => ?_) (fun h_21 => ?_)
    · have hh : tHas (V 5) (V 0 6) a c = false := decide_eq_false (by omega)
      refine pw_iconst hX (k := 0) rfl (by decide) dX4_has_28 (q := 29) rfl ?_
      refine pw_istore_n hX (by decide) dX4_has_29 (q := 30) rfl ?_
      refine pw_aload_n hX rfl dX4_has_30 (q := 31) rfl ?_
      refine pw_dup hX rfl dX4_has_31 (q := 32) rfl ?_
      refine pw_getMS hX 7 (by decide) fl_X4_157 rfl dX4_has_32 (q := 35) rfl ?_
      repeat first | rw [tV_7] | rw [tV_8] | rw [tV_x] | rw [tV_t] | rw [tV_g] | rw [tV_p7] | rw [tV_p8] | rw [tV_pg] | rw [upN_s]
      refine pw_iload_n hX rfl dX4_has_35 (q := 36) rfl ?_
      refine pw_ifN_eq hX (by first | omega | (have h9 := hT a (by omega); omega)) (tgt := 43) dX4_has_36 (q := 39) rfl (by decide) (fun h_36 => ?_) (fun h_36 => ?_)
      · refine pw_iconst hX (k := 0) rfl (by decide) dX4_has_43 (q := 44) rfl ?_
        refine pw_iaddN hX dX4_has_44 (q := 45) rfl ?_
        refine pw_putMS hX 7 (by decide) fl_X4_157 dX4_has_45 (q := 48) rfl ?_
        repeat first | rw [tV_7] | rw [tV_8] | rw [tV_x] | rw [tV_t] | rw [tV_g] | rw [tV_p7] | rw [tV_p8] | rw [tV_pg] | rw [upN_s]
        refine pw_iload_n hX rfl dX4_has_48 (q := 49) rfl ?_
        refine pw_ireturn hX dX4_has_49 ⟨_, rfl, by first | exact bI_nar _ | decide | rfl⟩ ⟨congrArg (fun z => some (Value.int z)) ?_, ?_⟩
        · rw [hh]; rfl
        · rw [hh]; rfl
      · exact absurd rfl h_36
    · have hh : tHas (V 5) (V 0 6) a c = true := decide_eq_true (by omega)
      refine pw_iconst hX (k := 1) rfl (by decide) dX4_has_24 (q := 25) rfl ?_
      refine pw_goto hX (tgt := 29) dX4_has_25 (by decide) ?_
      refine pw_istore_n hX (by decide) dX4_has_29 (q := 30) rfl ?_
      refine pw_aload_n hX rfl dX4_has_30 (q := 31) rfl ?_
      refine pw_dup hX rfl dX4_has_31 (q := 32) rfl ?_
      refine pw_getMS hX 7 (by decide) fl_X4_157 rfl dX4_has_32 (q := 35) rfl ?_
      repeat first | rw [tV_7] | rw [tV_8] | rw [tV_x] | rw [tV_t] | rw [tV_g] | rw [tV_p7] | rw [tV_p8] | rw [tV_pg] | rw [upN_s]
      refine pw_iload_n hX rfl dX4_has_35 (q := 36) rfl ?_
      refine pw_ifN_eq hX (by first | omega | (have h9 := hT a (by omega); omega)) (tgt := 43) dX4_has_36 (q := 39) rfl (by decide) (fun h_36 => ?_) (fun h_36 => ?_)
      · exact absurd h_36 (by decide)
      · refine pw_iconst hX (k := 1) rfl (by decide) dX4_has_39 (q := 40) rfl ?_
        refine pw_goto hX (tgt := 44) dX4_has_40 (by decide) ?_
        refine pw_iaddN hX dX4_has_44 (q := 45) rfl ?_
        refine pw_putMS hX 7 (by decide) fl_X4_157 dX4_has_45 (q := 48) rfl ?_
        repeat first | rw [tV_7] | rw [tV_8] | rw [tV_x] | rw [tV_t] | rw [tV_g] | rw [tV_p7] | rw [tV_p8] | rw [tV_pg] | rw [upN_s]
        refine pw_iload_n hX rfl dX4_has_48 (q := 49) rfl ?_
        refine pw_ireturn hX dX4_has_49 ⟨_, rfl, by first | exact bI_nar _ | decide | rfl⟩ ⟨congrArg (fun z => some (Value.int z)) ?_, ?_⟩
        · rw [hh]; rfl
        · rw [hh]; rfl
theorem tV_eq {w : WD} {V : Nat → Nat → Nat} {a a' r : Nat} {G G' S : Nat → Nat} (h : a = a') (h2 : G = G') : mW w (tV V a r G) S = mW w (tV V a' r G') S := by rw [h, h2]
abbrev rm_X4_number : Room := { frames := 1, cells := 0, slots := 0, locals := 22 }
set_option maxHeartbeats 800000 in
set_option maxRecDepth 20000 in
theorem c_X4_number {l : Launch} {g : Geo} {w : WD} {V : Nat → Nat → Nat} {S : Nat → Nat} {a r : Nat} {G : Nat → Nat} {i : Nat} (hi : i < 3) (h6 : V 0 6 ≤ 60) (ha : a ≤ V 0 6) (hT : ∀ j, j < 60 → V 5 j < 65536) : CtI l g yX4_number cX4_number 3 (some .boolean) rm_X4_number [.ref (g_ad g 9 0), .int (nI i)] (mW w (tV V a r G) S) (bI (decide (0 < tLen (V 5) (V 0 6) a))) (mW w (tV V (a + tLen (V 5) (V 0 6) a) r (upN G i (tVal (V 5) (V 0 6) a))) S) := by
  refine ct_of mi_X4_number.2.2.2.2.2 ⟨rfl, rfl⟩ (List.forall_mem_cons.mpr ⟨rfl, List.forall_mem_cons.mpr ⟨rfl, fun _ h => absurd h List.not_mem_nil⟩⟩) (Nat.le_of_ble_eq_true rfl) (fun P hX => ?_)
  replace hX : Gd l g RX4 cX4_number rm_X4_number 3 (some .boolean) _ _ P := hX
  show P (mW w (tV V a r G) S) 0 [some (.ref (g_ad g 9 0)), some (.int (nI i)), none] []
  refine pw_aload_n hX rfl dX4_number_0 (q := 1) rfl ?_
  refine pw_getMS hX 7 (by decide) fl_X4_157 rfl dX4_number_1 (q := 4) rfl ?_
  repeat first | rw [tV_7] | rw [tV_8] | rw [tV_x] | rw [tV_t] | rw [tV_g] | rw [tV_p7] | rw [tV_p8] | rw [tV_pg] | rw [upN_s]
  refine pw_istore_n hX (by decide) dX4_number_4 (q := 5) rfl ?_
  refine pw_aload_n hX rfl dX4_number_5 (q := 6) rfl ?_
  refine pw_getMS hX 9 (by decide) fl_X4_26 rfl dX4_number_6 (q := 9) rfl ?_
  refine pw_iload_n hX rfl dX4_number_9 (q := 10) rfl ?_
  refine pw_iconst hX (k := 0) rfl (by decide) dX4_number_10 (q := 11) rfl ?_
  refine pw_iastMS hX 6 (by decide) (show _ < 3 by omega) dX4_number_11 (q := 12) rfl ?_
  repeat first | rw [tV_7] | rw [tV_8] | rw [tV_x] | rw [tV_t] | rw [tV_g] | rw [tV_p7] | rw [tV_p8] | rw [tV_pg] | rw [upN_s]
  refine pw_aload_n hX rfl dX4_number_12 (q := 13) rfl ?_
  refine pw_getMS hX 7 (by decide) fl_X4_157 rfl dX4_number_13 (q := 16) rfl ?_
  repeat first | rw [tV_7] | rw [tV_8] | rw [tV_x] | rw [tV_t] | rw [tV_g] | rw [tV_p7] | rw [tV_p8] | rw [tV_pg] | rw [upN_s]
  refine pw_aload_n hX rfl dX4_number_16 (q := 17) rfl ?_
  refine pw_getMS hX 6 (by decide) fl_X4_154 rfl dX4_number_17 (q := 20) rfl ?_
  repeat first | rw [tV_7] | rw [tV_8] | rw [tV_x] | rw [tV_t] | rw [tV_g] | rw [tV_p7] | rw [tV_p8] | rw [tV_pg] | rw [upN_s]
  refine pw_icmpN_ge hX (by first | omega | (have h9 := hT a (by omega); omega)) (by first | omega | (have h9 := hT a (by omega); omega)) (tgt := 93) dX4_number_20 (q := 23) rfl (by decide) (fun h_20 => ?_) (fun h_20 => ?_)
  · have d0 : isD (V 5) (V 0 6) a = false := decide_eq_false (fun z => by omega)
    have hL : tLen (V 5) (V 0 6) a = 0 ∧ tVal (V 5) (V 0 6) a = 0 := by
      constructor
      · unfold tLen; rw [d0]; rfl
      · unfold tVal; rw [d0]; rfl
    refine pw_aload_n hX rfl dX4_number_93 (q := 94) rfl ?_
    refine pw_getMS hX 7 (by decide) fl_X4_157 rfl dX4_number_94 (q := 97) rfl ?_
    repeat first | rw [tV_7] | rw [tV_8] | rw [tV_x] | rw [tV_t] | rw [tV_g] | rw [tV_p7] | rw [tV_p8] | rw [tV_pg] | rw [upN_s]
    refine pw_iload_n hX rfl dX4_number_97 (q := 98) rfl ?_
    refine pw_icmpN_le hX (by first | omega | (have h9 := hT a (by omega); omega)) (by first | omega | (have h9 := hT a (by omega); omega)) (tgt := 105) dX4_number_98 (q := 101) rfl (by decide) (fun h_98 => ?_) (fun h_98 => ?_)
    · refine pw_iconst hX (k := 0) rfl (by decide) dX4_number_105 (q := 106) rfl ?_
      refine pw_ireturn hX dX4_number_106 ⟨_, rfl, by first | exact bI_nar _ | decide | rfl⟩ ⟨congrArg (fun z => some (Value.int z)) ?_, ?_⟩
      · rw [hL.1]; first | (exfalso; omega) | rfl
      · rw [hL.1, hL.2]; first | (exfalso; omega) | (refine tV_eq (by omega) ?_; (repeat rw [upN_upN]); exact congrArg (upN G i) (by omega))
    · refine pw_iconst hX (k := 1) rfl (by decide) dX4_number_101 (q := 102) rfl ?_
      refine pw_goto hX (tgt := 106) dX4_number_102 (by decide) ?_
      refine pw_ireturn hX dX4_number_106 ⟨_, rfl, by first | exact bI_nar _ | decide | rfl⟩ ⟨congrArg (fun z => some (Value.int z)) ?_, ?_⟩
      · rw [hL.1]; first | (exfalso; omega) | rfl
      · rw [hL.1, hL.2]; first | (exfalso; omega) | (refine tV_eq (by omega) ?_; (repeat rw [upN_upN]); exact congrArg (upN G i) (by omega))
  · refine pw_aload_n hX rfl dX4_number_23 (q := 24) rfl ?_
    refine pw_getMS hX 7 (by decide) fl_X4_157 rfl dX4_number_24 (q := 27) rfl ?_
    repeat first | rw [tV_7] | rw [tV_8] | rw [tV_x] | rw [tV_t] | rw [tV_g] | rw [tV_p7] | rw [tV_p8] | rw [tV_pg] | rw [upN_s]
    refine pw_iload_n hX rfl dX4_number_27 (q := 28) rfl ?_
    refine pw_iconst hX (k := 2) rfl (by decide) dX4_number_28 (q := 29) rfl ?_
    refine pw_iaddN hX dX4_number_29 (q := 30) rfl ?_
    refine pw_icmpN_ge hX (by first | omega | (have h9 := hT a (by omega); omega)) (by first | omega | (have h9 := hT a (by omega); omega)) (tgt := 93) dX4_number_30 (q := 33) rfl (by decide) (fun h_30 => ?_) (fun h_30 => ?_)
    · exfalso; omega
    · refine pw_aload_n hX rfl dX4_number_33 (q := 34) rfl ?_
      refine pw_getMS hX 5 (by decide) fl_X4_22 rfl dX4_number_34 (q := 37) rfl ?_
      refine pw_aload_n hX rfl dX4_number_37 (q := 38) rfl ?_
      refine pw_getMS hX 7 (by decide) fl_X4_157 rfl dX4_number_38 (q := 41) rfl ?_
      repeat first | rw [tV_7] | rw [tV_8] | rw [tV_x] | rw [tV_t] | rw [tV_g] | rw [tV_p7] | rw [tV_p8] | rw [tV_pg] | rw [upN_s]
      refine pw_caldMS hX (by omega) dX4_number_41 (q := 42) rfl ?_
      repeat first | rw [tV_7] | rw [tV_8] | rw [tV_x] | rw [tV_t] | rw [tV_g] | rw [tV_p7] | rw [tV_p8] | rw [tV_pg] | rw [upN_s]
      refine pw_bipush hX (k := 48) (by decide) dX4_number_42 (q := 44) rfl ?_
      refine pw_bipush hX (k := 57) (by decide) dX4_number_44 (q := 46) rfl ?_
      refine pw_csI3 hX dX4_number_46 (q := 49) rfl mi_X4_in ml_X4_33 ⟨rfl, rfl, by decide, by decide⟩ rfl (Nat.le_of_ble_eq_true rfl) (c_X4_inN (by decide) (by decide)) ?_
      first | rw [inN_nI (show V 5 a < 2 ^ 31 by have h9 := hT a (by omega); omega)] | rw [inN_nI (show V 5 (a + 1) < 2 ^ 31 by have h9 := hT (a + 1) (by omega); omega)]
      refine pw_ifB_eq hX (tgt := 93) dX4_number_49 (q := 52) rfl (by decide) (fun h_49 => ?_) (fun h_49 => ?_)
      · have h_49 := of_decide_eq_false h_49
        have d0 : isD (V 5) (V 0 6) a = false := decide_eq_false (fun z => by omega)
        have hL : tLen (V 5) (V 0 6) a = 0 ∧ tVal (V 5) (V 0 6) a = 0 := by
          constructor
          · unfold tLen; rw [d0]; rfl
          · unfold tVal; rw [d0]; rfl
        refine pw_aload_n hX rfl dX4_number_93 (q := 94) rfl ?_
        refine pw_getMS hX 7 (by decide) fl_X4_157 rfl dX4_number_94 (q := 97) rfl ?_
        repeat first | rw [tV_7] | rw [tV_8] | rw [tV_x] | rw [tV_t] | rw [tV_g] | rw [tV_p7] | rw [tV_p8] | rw [tV_pg] | rw [upN_s]
        refine pw_iload_n hX rfl dX4_number_97 (q := 98) rfl ?_
        refine pw_icmpN_le hX (by first | omega | (have h9 := hT a (by omega); omega)) (by first | omega | (have h9 := hT a (by omega); omega)) (tgt := 105) dX4_number_98 (q := 101) rfl (by decide) (fun h_98 => ?_) (fun h_98 => ?_)
        · refine pw_iconst hX (k := 0) rfl (by decide) dX4_number_105 (q := 106) rfl ?_
          refine pw_ireturn hX dX4_number_106 ⟨_, rfl, by first | exact bI_nar _ | decide | rfl⟩ ⟨congrArg (fun z => some (Value.int z)) ?_, ?_⟩
          · rw [hL.1]; first | (exfalso; omega) | rfl
          · rw [hL.1, hL.2]; first | (exfalso; omega) | (refine tV_eq (by omega) ?_; (repeat rw [upN_upN]); exact congrArg (upN G i) (by omega))
        · refine pw_iconst hX (k := 1) rfl (by decide) dX4_number_101 (q := 102) rfl ?_
          refine pw_goto hX (tgt := 106) dX4_number_102 (by decide) ?_
          refine pw_ireturn hX dX4_number_106 ⟨_, rfl, by first | exact bI_nar _ | decide | rfl⟩ ⟨congrArg (fun z => some (Value.int z)) ?_, ?_⟩
          · rw [hL.1]; first | (exfalso; omega) | rfl
          · rw [hL.1, hL.2]; first | (exfalso; omega) | (refine tV_eq (by omega) ?_; (repeat rw [upN_upN]); exact congrArg (upN G i) (by omega))
      · have h_49 := of_decide_eq_true h_49
        refine pw_aload_n hX rfl dX4_number_52 (q := 53) rfl ?_
        refine pw_getMS hX 9 (by decide) fl_X4_26 rfl dX4_number_53 (q := 56) rfl ?_
        refine pw_iload_n hX rfl dX4_number_56 (q := 57) rfl ?_
        refine pw_bipush hX (k := 10) (by decide) dX4_number_57 (q := 59) rfl ?_
        refine pw_aload_n hX rfl dX4_number_59 (q := 60) rfl ?_
        refine pw_getMS hX 9 (by decide) fl_X4_26 rfl dX4_number_60 (q := 63) rfl ?_
        refine pw_iload_n hX rfl dX4_number_63 (q := 64) rfl ?_
        refine pw_ialdMS hX 6 (by decide) (show _ < 3 by omega) dX4_number_64 (q := 65) rfl ?_
        repeat first | rw [tV_7] | rw [tV_8] | rw [tV_x] | rw [tV_t] | rw [tV_g] | rw [tV_p7] | rw [tV_p8] | rw [tV_pg] | rw [upN_s]
        refine pw_imulN hX dX4_number_65 (q := 66) rfl ?_
        refine pw_aload_n hX rfl dX4_number_66 (q := 67) rfl ?_
        refine pw_getMS hX 5 (by decide) fl_X4_22 rfl dX4_number_67 (q := 70) rfl ?_
        refine pw_aload_n hX rfl dX4_number_70 (q := 71) rfl ?_
        refine pw_getMS hX 7 (by decide) fl_X4_157 rfl dX4_number_71 (q := 74) rfl ?_
        repeat first | rw [tV_7] | rw [tV_8] | rw [tV_x] | rw [tV_t] | rw [tV_g] | rw [tV_p7] | rw [tV_p8] | rw [tV_pg] | rw [upN_s]
        refine pw_caldMS hX (by omega) dX4_number_74 (q := 75) rfl ?_
        repeat first | rw [tV_7] | rw [tV_8] | rw [tV_x] | rw [tV_t] | rw [tV_g] | rw [tV_p7] | rw [tV_p8] | rw [tV_pg] | rw [upN_s]
        refine pw_iaddN hX dX4_number_75 (q := 76) rfl ?_
        refine pw_bipush hX (k := 48) (by decide) dX4_number_76 (q := 78) rfl ?_
        refine pw_isubN hX (by first | assumption | omega) dX4_number_78 (q := 79) rfl ?_
        refine pw_iastMS hX 6 (by decide) (show _ < 3 by omega) dX4_number_79 (q := 80) rfl ?_
        repeat first | rw [tV_7] | rw [tV_8] | rw [tV_x] | rw [tV_t] | rw [tV_g] | rw [tV_p7] | rw [tV_p8] | rw [tV_pg] | rw [upN_s]
        refine pw_aload_n hX rfl dX4_number_80 (q := 81) rfl ?_
        refine pw_dup hX rfl dX4_number_81 (q := 82) rfl ?_
        refine pw_getMS hX 7 (by decide) fl_X4_157 rfl dX4_number_82 (q := 85) rfl ?_
        repeat first | rw [tV_7] | rw [tV_8] | rw [tV_x] | rw [tV_t] | rw [tV_g] | rw [tV_p7] | rw [tV_p8] | rw [tV_pg] | rw [upN_s]
        refine pw_iconst hX (k := 1) rfl (by decide) dX4_number_85 (q := 86) rfl ?_
        refine pw_iaddN hX dX4_number_86 (q := 87) rfl ?_
        refine pw_putMS hX 7 (by decide) fl_X4_157 dX4_number_87 (q := 90) rfl ?_
        repeat first | rw [tV_7] | rw [tV_8] | rw [tV_x] | rw [tV_t] | rw [tV_g] | rw [tV_p7] | rw [tV_p8] | rw [tV_pg] | rw [upN_s]
        refine pw_goto hX (tgt := 12) dX4_number_90 (by decide) ?_
        have d0 : isD (V 5) (V 0 6) a = true := decide_eq_true ⟨by omega, h_49⟩
        have q0 := h_49
        refine pw_aload_n hX rfl dX4_number_12 (q := 13) rfl ?_
        refine pw_getMS hX 7 (by decide) fl_X4_157 rfl dX4_number_13 (q := 16) rfl ?_
        repeat first | rw [tV_7] | rw [tV_8] | rw [tV_x] | rw [tV_t] | rw [tV_g] | rw [tV_p7] | rw [tV_p8] | rw [tV_pg] | rw [upN_s]
        refine pw_aload_n hX rfl dX4_number_16 (q := 17) rfl ?_
        refine pw_getMS hX 6 (by decide) fl_X4_154 rfl dX4_number_17 (q := 20) rfl ?_
        repeat first | rw [tV_7] | rw [tV_8] | rw [tV_x] | rw [tV_t] | rw [tV_g] | rw [tV_p7] | rw [tV_p8] | rw [tV_pg] | rw [upN_s]
        refine pw_icmpN_ge hX (by first | omega | (have h9 := hT a (by omega); omega)) (by first | omega | (have h9 := hT a (by omega); omega)) (tgt := 93) dX4_number_20 (q := 23) rfl (by decide) (fun h_20 => ?_) (fun h_20 => ?_)
        · have d1 : isD (V 5) (V 0 6) (a + 1) = false := decide_eq_false (fun z => by omega)
          have hL : tLen (V 5) (V 0 6) a = 1 ∧ tVal (V 5) (V 0 6) a = V 5 a - 48 := by
            constructor
            · unfold tLen; rw [if_pos d0, d1]; rfl
            · unfold tVal; rw [if_pos d0, d1]; rfl
          refine pw_aload_n hX rfl dX4_number_93 (q := 94) rfl ?_
          refine pw_getMS hX 7 (by decide) fl_X4_157 rfl dX4_number_94 (q := 97) rfl ?_
          repeat first | rw [tV_7] | rw [tV_8] | rw [tV_x] | rw [tV_t] | rw [tV_g] | rw [tV_p7] | rw [tV_p8] | rw [tV_pg] | rw [upN_s]
          refine pw_iload_n hX rfl dX4_number_97 (q := 98) rfl ?_
          refine pw_icmpN_le hX (by first | omega | (have h9 := hT a (by omega); omega)) (by first | omega | (have h9 := hT a (by omega); omega)) (tgt := 105) dX4_number_98 (q := 101) rfl (by decide) (fun h_98 => ?_) (fun h_98 => ?_)
          · refine pw_iconst hX (k := 0) rfl (by decide) dX4_number_105 (q := 106) rfl ?_
            refine pw_ireturn hX dX4_number_106 ⟨_, rfl, by first | exact bI_nar _ | decide | rfl⟩ ⟨congrArg (fun z => some (Value.int z)) ?_, ?_⟩
            · rw [hL.1]; first | (exfalso; omega) | rfl
            · rw [hL.1, hL.2]; first | (exfalso; omega) | (refine tV_eq (by omega) ?_; (repeat rw [upN_upN]); exact congrArg (upN G i) (by omega))
          · refine pw_iconst hX (k := 1) rfl (by decide) dX4_number_101 (q := 102) rfl ?_
            refine pw_goto hX (tgt := 106) dX4_number_102 (by decide) ?_
            refine pw_ireturn hX dX4_number_106 ⟨_, rfl, by first | exact bI_nar _ | decide | rfl⟩ ⟨congrArg (fun z => some (Value.int z)) ?_, ?_⟩
            · rw [hL.1]; first | (exfalso; omega) | rfl
            · rw [hL.1, hL.2]; first | (exfalso; omega) | (refine tV_eq (by omega) ?_; (repeat rw [upN_upN]); exact congrArg (upN G i) (by omega))
        · refine pw_aload_n hX rfl dX4_number_23 (q := 24) rfl ?_
          refine pw_getMS hX 7 (by decide) fl_X4_157 rfl dX4_number_24 (q := 27) rfl ?_
          repeat first | rw [tV_7] | rw [tV_8] | rw [tV_x] | rw [tV_t] | rw [tV_g] | rw [tV_p7] | rw [tV_p8] | rw [tV_pg] | rw [upN_s]
          refine pw_iload_n hX rfl dX4_number_27 (q := 28) rfl ?_
          refine pw_iconst hX (k := 2) rfl (by decide) dX4_number_28 (q := 29) rfl ?_
          refine pw_iaddN hX dX4_number_29 (q := 30) rfl ?_
          refine pw_icmpN_ge hX (by first | omega | (have h9 := hT a (by omega); omega)) (by first | omega | (have h9 := hT a (by omega); omega)) (tgt := 93) dX4_number_30 (q := 33) rfl (by decide) (fun h_30 => ?_) (fun h_30 => ?_)
          · exfalso; omega
          · refine pw_aload_n hX rfl dX4_number_33 (q := 34) rfl ?_
            refine pw_getMS hX 5 (by decide) fl_X4_22 rfl dX4_number_34 (q := 37) rfl ?_
            refine pw_aload_n hX rfl dX4_number_37 (q := 38) rfl ?_
            refine pw_getMS hX 7 (by decide) fl_X4_157 rfl dX4_number_38 (q := 41) rfl ?_
            repeat first | rw [tV_7] | rw [tV_8] | rw [tV_x] | rw [tV_t] | rw [tV_g] | rw [tV_p7] | rw [tV_p8] | rw [tV_pg] | rw [upN_s]
            refine pw_caldMS hX (by omega) dX4_number_41 (q := 42) rfl ?_
            repeat first | rw [tV_7] | rw [tV_8] | rw [tV_x] | rw [tV_t] | rw [tV_g] | rw [tV_p7] | rw [tV_p8] | rw [tV_pg] | rw [upN_s]
            refine pw_bipush hX (k := 48) (by decide) dX4_number_42 (q := 44) rfl ?_
            refine pw_bipush hX (k := 57) (by decide) dX4_number_44 (q := 46) rfl ?_
            refine pw_csI3 hX dX4_number_46 (q := 49) rfl mi_X4_in ml_X4_33 ⟨rfl, rfl, by decide, by decide⟩ rfl (Nat.le_of_ble_eq_true rfl) (c_X4_inN (by decide) (by decide)) ?_
            first | rw [inN_nI (show V 5 a < 2 ^ 31 by have h9 := hT a (by omega); omega)] | rw [inN_nI (show V 5 (a + 1) < 2 ^ 31 by have h9 := hT (a + 1) (by omega); omega)]
            refine pw_ifB_eq hX (tgt := 93) dX4_number_49 (q := 52) rfl (by decide) (fun h_49 => ?_) (fun h_49 => ?_)
            · have h_49 := of_decide_eq_false h_49
              have d1 : isD (V 5) (V 0 6) (a + 1) = false := decide_eq_false (fun z => by omega)
              have hL : tLen (V 5) (V 0 6) a = 1 ∧ tVal (V 5) (V 0 6) a = V 5 a - 48 := by
                constructor
                · unfold tLen; rw [if_pos d0, d1]; rfl
                · unfold tVal; rw [if_pos d0, d1]; rfl
              refine pw_aload_n hX rfl dX4_number_93 (q := 94) rfl ?_
              refine pw_getMS hX 7 (by decide) fl_X4_157 rfl dX4_number_94 (q := 97) rfl ?_
              repeat first | rw [tV_7] | rw [tV_8] | rw [tV_x] | rw [tV_t] | rw [tV_g] | rw [tV_p7] | rw [tV_p8] | rw [tV_pg] | rw [upN_s]
              refine pw_iload_n hX rfl dX4_number_97 (q := 98) rfl ?_
              refine pw_icmpN_le hX (by first | omega | (have h9 := hT a (by omega); omega)) (by first | omega | (have h9 := hT a (by omega); omega)) (tgt := 105) dX4_number_98 (q := 101) rfl (by decide) (fun h_98 => ?_) (fun h_98 => ?_)
              · refine pw_iconst hX (k := 0) rfl (by decide) dX4_number_105 (q := 106) rfl ?_
                refine pw_ireturn hX dX4_number_106 ⟨_, rfl, by first | exact bI_nar _ | decide | rfl⟩ ⟨congrArg (fun z => some (Value.int z)) ?_, ?_⟩
                · rw [hL.1]; first | (exfalso; omega) | rfl
                · rw [hL.1, hL.2]; first | (exfalso; omega) | (refine tV_eq (by omega) ?_; (repeat rw [upN_upN]); exact congrArg (upN G i) (by omega))
              · refine pw_iconst hX (k := 1) rfl (by decide) dX4_number_101 (q := 102) rfl ?_
                refine pw_goto hX (tgt := 106) dX4_number_102 (by decide) ?_
                refine pw_ireturn hX dX4_number_106 ⟨_, rfl, by first | exact bI_nar _ | decide | rfl⟩ ⟨congrArg (fun z => some (Value.int z)) ?_, ?_⟩
                · rw [hL.1]; first | (exfalso; omega) | rfl
                · rw [hL.1, hL.2]; first | (exfalso; omega) | (refine tV_eq (by omega) ?_; (repeat rw [upN_upN]); exact congrArg (upN G i) (by omega))
            · have h_49 := of_decide_eq_true h_49
              refine pw_aload_n hX rfl dX4_number_52 (q := 53) rfl ?_
              refine pw_getMS hX 9 (by decide) fl_X4_26 rfl dX4_number_53 (q := 56) rfl ?_
              refine pw_iload_n hX rfl dX4_number_56 (q := 57) rfl ?_
              refine pw_bipush hX (k := 10) (by decide) dX4_number_57 (q := 59) rfl ?_
              refine pw_aload_n hX rfl dX4_number_59 (q := 60) rfl ?_
              refine pw_getMS hX 9 (by decide) fl_X4_26 rfl dX4_number_60 (q := 63) rfl ?_
              refine pw_iload_n hX rfl dX4_number_63 (q := 64) rfl ?_
              refine pw_ialdMS hX 6 (by decide) (show _ < 3 by omega) dX4_number_64 (q := 65) rfl ?_
              repeat first | rw [tV_7] | rw [tV_8] | rw [tV_x] | rw [tV_t] | rw [tV_g] | rw [tV_p7] | rw [tV_p8] | rw [tV_pg] | rw [upN_s]
              refine pw_imulN hX dX4_number_65 (q := 66) rfl ?_
              refine pw_aload_n hX rfl dX4_number_66 (q := 67) rfl ?_
              refine pw_getMS hX 5 (by decide) fl_X4_22 rfl dX4_number_67 (q := 70) rfl ?_
              refine pw_aload_n hX rfl dX4_number_70 (q := 71) rfl ?_
              refine pw_getMS hX 7 (by decide) fl_X4_157 rfl dX4_number_71 (q := 74) rfl ?_
              repeat first | rw [tV_7] | rw [tV_8] | rw [tV_x] | rw [tV_t] | rw [tV_g] | rw [tV_p7] | rw [tV_p8] | rw [tV_pg] | rw [upN_s]
              refine pw_caldMS hX (by omega) dX4_number_74 (q := 75) rfl ?_
              repeat first | rw [tV_7] | rw [tV_8] | rw [tV_x] | rw [tV_t] | rw [tV_g] | rw [tV_p7] | rw [tV_p8] | rw [tV_pg] | rw [upN_s]
              refine pw_iaddN hX dX4_number_75 (q := 76) rfl ?_
              refine pw_bipush hX (k := 48) (by decide) dX4_number_76 (q := 78) rfl ?_
              refine pw_isubN hX (by first | assumption | omega) dX4_number_78 (q := 79) rfl ?_
              refine pw_iastMS hX 6 (by decide) (show _ < 3 by omega) dX4_number_79 (q := 80) rfl ?_
              repeat first | rw [tV_7] | rw [tV_8] | rw [tV_x] | rw [tV_t] | rw [tV_g] | rw [tV_p7] | rw [tV_p8] | rw [tV_pg] | rw [upN_s]
              refine pw_aload_n hX rfl dX4_number_80 (q := 81) rfl ?_
              refine pw_dup hX rfl dX4_number_81 (q := 82) rfl ?_
              refine pw_getMS hX 7 (by decide) fl_X4_157 rfl dX4_number_82 (q := 85) rfl ?_
              repeat first | rw [tV_7] | rw [tV_8] | rw [tV_x] | rw [tV_t] | rw [tV_g] | rw [tV_p7] | rw [tV_p8] | rw [tV_pg] | rw [upN_s]
              refine pw_iconst hX (k := 1) rfl (by decide) dX4_number_85 (q := 86) rfl ?_
              refine pw_iaddN hX dX4_number_86 (q := 87) rfl ?_
              refine pw_putMS hX 7 (by decide) fl_X4_157 dX4_number_87 (q := 90) rfl ?_
              repeat first | rw [tV_7] | rw [tV_8] | rw [tV_x] | rw [tV_t] | rw [tV_g] | rw [tV_p7] | rw [tV_p8] | rw [tV_pg] | rw [upN_s]
              refine pw_goto hX (tgt := 12) dX4_number_90 (by decide) ?_
              have d1 : isD (V 5) (V 0 6) (a + 1) = true := decide_eq_true ⟨by omega, h_49⟩
              have q1 := h_49
              refine pw_aload_n hX rfl dX4_number_12 (q := 13) rfl ?_
              refine pw_getMS hX 7 (by decide) fl_X4_157 rfl dX4_number_13 (q := 16) rfl ?_
              repeat first | rw [tV_7] | rw [tV_8] | rw [tV_x] | rw [tV_t] | rw [tV_g] | rw [tV_p7] | rw [tV_p8] | rw [tV_pg] | rw [upN_s]
              refine pw_aload_n hX rfl dX4_number_16 (q := 17) rfl ?_
              refine pw_getMS hX 6 (by decide) fl_X4_154 rfl dX4_number_17 (q := 20) rfl ?_
              repeat first | rw [tV_7] | rw [tV_8] | rw [tV_x] | rw [tV_t] | rw [tV_g] | rw [tV_p7] | rw [tV_p8] | rw [tV_pg] | rw [upN_s]
              refine pw_icmpN_ge hX (by first | omega | (have h9 := hT a (by omega); omega)) (by first | omega | (have h9 := hT a (by omega); omega)) (tgt := 93) dX4_number_20 (q := 23) rfl (by decide) (fun h_20 => ?_) (fun h_20 => ?_)
              · have hL : tLen (V 5) (V 0 6) a = 2 ∧ tVal (V 5) (V 0 6) a = 10 * (V 5 a - 48) + V 5 (a + 1) - 48 := by
                  constructor
                  · unfold tLen; rw [if_pos d0, if_pos d1]
                  · unfold tVal; rw [if_pos d0, if_pos d1]
                refine pw_aload_n hX rfl dX4_number_93 (q := 94) rfl ?_
                refine pw_getMS hX 7 (by decide) fl_X4_157 rfl dX4_number_94 (q := 97) rfl ?_
                repeat first | rw [tV_7] | rw [tV_8] | rw [tV_x] | rw [tV_t] | rw [tV_g] | rw [tV_p7] | rw [tV_p8] | rw [tV_pg] | rw [upN_s]
                refine pw_iload_n hX rfl dX4_number_97 (q := 98) rfl ?_
                refine pw_icmpN_le hX (by first | omega | (have h9 := hT a (by omega); omega)) (by first | omega | (have h9 := hT a (by omega); omega)) (tgt := 105) dX4_number_98 (q := 101) rfl (by decide) (fun h_98 => ?_) (fun h_98 => ?_)
                · refine pw_iconst hX (k := 0) rfl (by decide) dX4_number_105 (q := 106) rfl ?_
                  refine pw_ireturn hX dX4_number_106 ⟨_, rfl, by first | exact bI_nar _ | decide | rfl⟩ ⟨congrArg (fun z => some (Value.int z)) ?_, ?_⟩
                  · rw [hL.1]; first | (exfalso; omega) | rfl
                  · rw [hL.1, hL.2]; first | (exfalso; omega) | (refine tV_eq (by omega) ?_; (repeat rw [upN_upN]); exact congrArg (upN G i) (by omega))
                · refine pw_iconst hX (k := 1) rfl (by decide) dX4_number_101 (q := 102) rfl ?_
                  refine pw_goto hX (tgt := 106) dX4_number_102 (by decide) ?_
                  refine pw_ireturn hX dX4_number_106 ⟨_, rfl, by first | exact bI_nar _ | decide | rfl⟩ ⟨congrArg (fun z => some (Value.int z)) ?_, ?_⟩
                  · rw [hL.1]; first | (exfalso; omega) | rfl
                  · rw [hL.1, hL.2]; first | (exfalso; omega) | (refine tV_eq (by omega) ?_; (repeat rw [upN_upN]); exact congrArg (upN G i) (by omega))
              · refine pw_aload_n hX rfl dX4_number_23 (q := 24) rfl ?_
                refine pw_getMS hX 7 (by decide) fl_X4_157 rfl dX4_number_24 (q := 27) rfl ?_
                repeat first | rw [tV_7] | rw [tV_8] | rw [tV_x] | rw [tV_t] | rw [tV_g] | rw [tV_p7] | rw [tV_p8] | rw [tV_pg] | rw [upN_s]
                refine pw_iload_n hX rfl dX4_number_27 (q := 28) rfl ?_
                refine pw_iconst hX (k := 2) rfl (by decide) dX4_number_28 (q := 29) rfl ?_
                refine pw_iaddN hX dX4_number_29 (q := 30) rfl ?_
                refine pw_icmpN_ge hX (by first | omega | (have h9 := hT a (by omega); omega)) (by first | omega | (have h9 := hT a (by omega); omega)) (tgt := 93) dX4_number_30 (q := 33) rfl (by decide) (fun h_30 => ?_) (fun h_30 => ?_)
                · have hL : tLen (V 5) (V 0 6) a = 2 ∧ tVal (V 5) (V 0 6) a = 10 * (V 5 a - 48) + V 5 (a + 1) - 48 := by
                    constructor
                    · unfold tLen; rw [if_pos d0, if_pos d1]
                    · unfold tVal; rw [if_pos d0, if_pos d1]
                  refine pw_aload_n hX rfl dX4_number_93 (q := 94) rfl ?_
                  refine pw_getMS hX 7 (by decide) fl_X4_157 rfl dX4_number_94 (q := 97) rfl ?_
                  repeat first | rw [tV_7] | rw [tV_8] | rw [tV_x] | rw [tV_t] | rw [tV_g] | rw [tV_p7] | rw [tV_p8] | rw [tV_pg] | rw [upN_s]
                  refine pw_iload_n hX rfl dX4_number_97 (q := 98) rfl ?_
                  refine pw_icmpN_le hX (by first | omega | (have h9 := hT a (by omega); omega)) (by first | omega | (have h9 := hT a (by omega); omega)) (tgt := 105) dX4_number_98 (q := 101) rfl (by decide) (fun h_98 => ?_) (fun h_98 => ?_)
                  · refine pw_iconst hX (k := 0) rfl (by decide) dX4_number_105 (q := 106) rfl ?_
                    refine pw_ireturn hX dX4_number_106 ⟨_, rfl, by first | exact bI_nar _ | decide | rfl⟩ ⟨congrArg (fun z => some (Value.int z)) ?_, ?_⟩
                    · rw [hL.1]; first | (exfalso; omega) | rfl
                    · rw [hL.1, hL.2]; first | (exfalso; omega) | (refine tV_eq (by omega) ?_; (repeat rw [upN_upN]); exact congrArg (upN G i) (by omega))
                  · refine pw_iconst hX (k := 1) rfl (by decide) dX4_number_101 (q := 102) rfl ?_
                    refine pw_goto hX (tgt := 106) dX4_number_102 (by decide) ?_
                    refine pw_ireturn hX dX4_number_106 ⟨_, rfl, by first | exact bI_nar _ | decide | rfl⟩ ⟨congrArg (fun z => some (Value.int z)) ?_, ?_⟩
                    · rw [hL.1]; first | (exfalso; omega) | rfl
                    · rw [hL.1, hL.2]; first | (exfalso; omega) | (refine tV_eq (by omega) ?_; (repeat rw [upN_upN]); exact congrArg (upN G i) (by omega))
                · exact absurd h_30 (by omega)
abbrev rm_X4_readsForm : Room := { frames := 2, cells := 0, slots := 0, locals := 44 }
set_option maxHeartbeats 800000 in
set_option maxRecDepth 20000 in
theorem c_X4_readsForm {l : Launch} {g : Geo} {w : WD} {V : Nat → Nat → Nat} {S : Nat → Nat} {a r : Nat} {G : Nat → Nat} {c : Nat} (hc : c < 2 ^ 31) (h6 : V 0 6 ≤ 60) (ha : a ≤ V 0 6) (hT : ∀ j, j < 60 → V 5 j < 65536) : CtI l g yX4_readsForm cX4_readsForm 5 (some .boolean) rm_X4_readsForm [.ref (g_ad g 9 0), .int (nI c)] (mW w (tV V a r G) S) (bI (tForm (V 5) (V 0 6) c a G).1) (mW w (tV V (tForm (V 5) (V 0 6) c a G).2.1 r (tForm (V 5) (V 0 6) c a G).2.2) S) := by
  refine ct_of mi_X4_readsForm.2.2.2.2.2 ⟨rfl, rfl⟩ (List.forall_mem_cons.mpr ⟨rfl, List.forall_mem_cons.mpr ⟨rfl, fun _ h => absurd h List.not_mem_nil⟩⟩) (Nat.le_of_ble_eq_true rfl) (fun P hX => ?_)
  replace hX : Gd l g RX4 cX4_readsForm rm_X4_readsForm 5 (some .boolean) _ _ P := hX
  show P (mW w (tV V a r G) S) 0 [some (.ref (g_ad g 9 0)), some (.int (nI c)), none, none, none] []
  have hn3 := tNums_le c
  refine jn (A := P (mW w (tV V a r G) S) 49 [some (.ref (g_ad g 9 0)), some (.int (nI c)), none, none, none] [.int (nI (tNums c))]) ?_ (fun J0 => ?_)
  · skip
    refine jn (A := P (mW w (tV V (tR (V 5) (V 0 6) (tNums c) a G 0).2.1 r (tR (V 5) (V 0 6) (tNums c) a G 0).2.2) S) 67 [some (.ref (g_ad g 9 0)), some (.int (nI c)), some (.int (nI (tNums c))), none, none] [.int (bI (tR (V 5) (V 0 6) (tNums c) a G 0).1)]) ?_ (fun J49 => ?_)
    · skip
      refine pw_istore_n hX (by decide) dX4_readsForm_67 (q := 68) rfl ?_
      refine pw_iconst hX (k := 1) rfl (by decide) dX4_readsForm_68 (q := 69) rfl ?_
      refine pw_istore hX (by decide) dX4_readsForm_69 (q := 71) rfl ?_
      suffices L : ∀ k, k ≤ tNums c - 1 → P (mW w (tV V (tR (V 5) (V 0 6) (tNums c) a G k).2.1 r (tR (V 5) (V 0 6) (tNums c) a G k).2.2) S) 71 [some (.ref (g_ad g 9 0)), some (.int (nI c)), some (.int (nI (tNums c))), some (.int (bI (tR (V 5) (V 0 6) (tNums c) a G k).1)), some (.int (nI (k + 1)))] [] by exact L 0 (Nat.zero_le _)
      refine loopUp (fun k hk ih => ?_)
      have hX1 := tR_X (T := V 5) (n := tNums c) (G := G) ha k
      refine pw_iload hX rfl dX4_readsForm_71 (q := 73) rfl ?_
      refine pw_iload_n hX rfl dX4_readsForm_73 (q := 74) rfl ?_
      refine pw_icmpN_ge hX (by first | omega | (have h9 := hT a (by omega); omega)) (by first | omega | (have h9 := hT a (by omega); omega)) (tgt := 111) dX4_readsForm_74 (q := 77) rfl (by decide) (fun h_74 => ?_) (fun h_74 => ?_)
      · have hk1 : tNums c - 1 = k := by omega
        refine pw_iload_n hX rfl dX4_readsForm_111 (q := 112) rfl ?_
        refine pw_ifB_eq hX (tgt := 128) dX4_readsForm_112 (q := 115) rfl (by decide) (fun h_112 => ?_) (fun h_112 => ?_)
        · refine pw_iconst hX (k := 0) rfl (by decide) dX4_readsForm_128 (q := 129) rfl ?_
          refine pw_ireturn hX dX4_readsForm_129 ⟨_, rfl, by first | exact bI_nar _ | decide | rfl⟩ ⟨congrArg (fun z => some (Value.int z)) ?_, ?_⟩
          · rw [tForm, hk1]; first | exact absurd (h_78.symm.trans h_112) (by decide) | (rw [if_pos ⟨h_112, h_121⟩]; rfl) | (rw [if_neg (fun z => by rw [h_112] at z; exact absurd z.1 (by decide))]; rfl) | (rw [if_neg (fun z => by rw [h_121] at z; exact absurd z.2 (by decide))]; rfl)
          · rw [tForm, hk1]; first | exact absurd (h_78.symm.trans h_112) (by decide) | (simp [h_112]; done) | (simp [h_112, h_121]; done)
        · refine pw_aload_n hX rfl dX4_readsForm_115 (q := 116) rfl ?_
          refine pw_bipush hX (k := 59) (by decide) dX4_readsForm_116 (q := 118) rfl ?_
          refine pw_cvI1 hX dX4_readsForm_118 (q := 121) rfl mi_X4_has ml_X4_163 rcM ⟨rfl, rfl, by decide, by decide⟩ rfl (Nat.le_of_ble_eq_true rfl) (c_X4_has (by decide) h6 hX1.2 hT) ?_
          refine pw_ifB_eq hX (tgt := 128) dX4_readsForm_121 (q := 124) rfl (by decide) (fun h_121 => ?_) (fun h_121 => ?_)
          · refine pw_iconst hX (k := 0) rfl (by decide) dX4_readsForm_128 (q := 129) rfl ?_
            refine pw_ireturn hX dX4_readsForm_129 ⟨_, rfl, by first | exact bI_nar _ | decide | rfl⟩ ⟨congrArg (fun z => some (Value.int z)) ?_, ?_⟩
            · rw [tForm, hk1]; first | exact absurd (h_78.symm.trans h_112) (by decide) | (rw [if_pos ⟨h_112, h_121⟩]; rfl) | (rw [if_neg (fun z => by rw [h_112] at z; exact absurd z.1 (by decide))]; rfl) | (rw [if_neg (fun z => by rw [h_121] at z; exact absurd z.2 (by decide))]; rfl)
            · rw [tForm, hk1]; first | exact absurd (h_78.symm.trans h_112) (by decide) | (simp [h_112]; done) | (simp [h_112, h_121]; done)
          · refine pw_iconst hX (k := 1) rfl (by decide) dX4_readsForm_124 (q := 125) rfl ?_
            refine pw_goto hX (tgt := 129) dX4_readsForm_125 (by decide) ?_
            refine pw_ireturn hX dX4_readsForm_129 ⟨_, rfl, by first | exact bI_nar _ | decide | rfl⟩ ⟨congrArg (fun z => some (Value.int z)) ?_, ?_⟩
            · rw [tForm, hk1]; first | exact absurd (h_78.symm.trans h_112) (by decide) | (rw [if_pos ⟨h_112, h_121⟩]; rfl) | (rw [if_neg (fun z => by rw [h_112] at z; exact absurd z.1 (by decide))]; rfl) | (rw [if_neg (fun z => by rw [h_121] at z; exact absurd z.2 (by decide))]; rfl)
            · rw [tForm, hk1]; first | exact absurd (h_78.symm.trans h_112) (by decide) | (simp [h_112]; done) | (simp [h_112, h_121]; done)
      · refine pw_iload_n hX rfl dX4_readsForm_77 (q := 78) rfl ?_
        refine pw_ifB_eq hX (tgt := 111) dX4_readsForm_78 (q := 81) rfl (by decide) (fun h_78 => ?_) (fun h_78 => ?_)
        · have hk1 : tR (V 5) (V 0 6) (tNums c) a G (tNums c - 1) = tR (V 5) (V 0 6) (tNums c) a G k := by rw [show tNums c - 1 = k + (tNums c - 1 - k) by omega]; exact tR_f h_78 _
          refine pw_iload_n hX rfl dX4_readsForm_111 (q := 112) rfl ?_
          refine pw_ifB_eq hX (tgt := 128) dX4_readsForm_112 (q := 115) rfl (by decide) (fun h_112 => ?_) (fun h_112 => ?_)
          · refine pw_iconst hX (k := 0) rfl (by decide) dX4_readsForm_128 (q := 129) rfl ?_
            refine pw_ireturn hX dX4_readsForm_129 ⟨_, rfl, by first | exact bI_nar _ | decide | rfl⟩ ⟨congrArg (fun z => some (Value.int z)) ?_, ?_⟩
            · rw [tForm, hk1]; first | exact absurd (h_78.symm.trans h_112) (by decide) | (rw [if_pos ⟨h_112, h_121⟩]; rfl) | (rw [if_neg (fun z => by rw [h_112] at z; exact absurd z.1 (by decide))]; rfl) | (rw [if_neg (fun z => by rw [h_121] at z; exact absurd z.2 (by decide))]; rfl)
            · rw [tForm, hk1]; first | exact absurd (h_78.symm.trans h_112) (by decide) | (simp [h_112]; done) | (simp [h_112, h_121]; done)
          · refine pw_aload_n hX rfl dX4_readsForm_115 (q := 116) rfl ?_
            refine pw_bipush hX (k := 59) (by decide) dX4_readsForm_116 (q := 118) rfl ?_
            refine pw_cvI1 hX dX4_readsForm_118 (q := 121) rfl mi_X4_has ml_X4_163 rcM ⟨rfl, rfl, by decide, by decide⟩ rfl (Nat.le_of_ble_eq_true rfl) (c_X4_has (by decide) h6 hX1.2 hT) ?_
            refine pw_ifB_eq hX (tgt := 128) dX4_readsForm_121 (q := 124) rfl (by decide) (fun h_121 => ?_) (fun h_121 => ?_)
            · refine pw_iconst hX (k := 0) rfl (by decide) dX4_readsForm_128 (q := 129) rfl ?_
              refine pw_ireturn hX dX4_readsForm_129 ⟨_, rfl, by first | exact bI_nar _ | decide | rfl⟩ ⟨congrArg (fun z => some (Value.int z)) ?_, ?_⟩
              · rw [tForm, hk1]; first | exact absurd (h_78.symm.trans h_112) (by decide) | (rw [if_pos ⟨h_112, h_121⟩]; rfl) | (rw [if_neg (fun z => by rw [h_112] at z; exact absurd z.1 (by decide))]; rfl) | (rw [if_neg (fun z => by rw [h_121] at z; exact absurd z.2 (by decide))]; rfl)
              · rw [tForm, hk1]; first | exact absurd (h_78.symm.trans h_112) (by decide) | (simp [h_112]; done) | (simp [h_112, h_121]; done)
            · refine pw_iconst hX (k := 1) rfl (by decide) dX4_readsForm_124 (q := 125) rfl ?_
              refine pw_goto hX (tgt := 129) dX4_readsForm_125 (by decide) ?_
              refine pw_ireturn hX dX4_readsForm_129 ⟨_, rfl, by first | exact bI_nar _ | decide | rfl⟩ ⟨congrArg (fun z => some (Value.int z)) ?_, ?_⟩
              · rw [tForm, hk1]; first | exact absurd (h_78.symm.trans h_112) (by decide) | (rw [if_pos ⟨h_112, h_121⟩]; rfl) | (rw [if_neg (fun z => by rw [h_112] at z; exact absurd z.1 (by decide))]; rfl) | (rw [if_neg (fun z => by rw [h_121] at z; exact absurd z.2 (by decide))]; rfl)
              · rw [tForm, hk1]; first | exact absurd (h_78.symm.trans h_112) (by decide) | (simp [h_112]; done) | (simp [h_112, h_121]; done)
        · refine pw_aload_n hX rfl dX4_readsForm_81 (q := 82) rfl ?_
          refine pw_bipush hX (k := 44) (by decide) dX4_readsForm_82 (q := 84) rfl ?_
          refine pw_cvI1 hX dX4_readsForm_84 (q := 87) rfl mi_X4_has ml_X4_163 rcM ⟨rfl, rfl, by decide, by decide⟩ rfl (Nat.le_of_ble_eq_true rfl) (c_X4_has (by decide) h6 hX1.2 hT) ?_
          refine pw_ifB_eq hX (tgt := 103) dX4_readsForm_87 (q := 90) rfl (by decide) (fun h_87 => ?_) (fun h_87 => ?_)
          · refine pw_iconst hX (k := 0) rfl (by decide) dX4_readsForm_103 (q := 104) rfl ?_
            refine pw_istore_n hX (by decide) dX4_readsForm_104 (q := 105) rfl ?_
            refine pw_iinc hX rfl (by decide) (inc1 _) dX4_readsForm_105 (q := 108) rfl ?_
            refine pw_goto hX (tgt := 71) dX4_readsForm_108 (by decide) ?_
            have hs : tR (V 5) (V 0 6) (tNums c) a G (k + 1) = (false, (tR (V 5) (V 0 6) (tNums c) a G k).2) := by rw [tR_s, if_pos h_78, if_neg (by rw [h_87]; decide)]
            refine pw_eq ?_ ?_ rfl (ih (by omega))
            · rw [hs, h_87]; rfl
            · rw [hs]; rfl
          · rw [if_pos h_87]
            refine pw_aload_n hX rfl dX4_readsForm_90 (q := 91) rfl ?_
            refine pw_iload hX rfl dX4_readsForm_91 (q := 93) rfl ?_
            refine pw_cvI1 hX dX4_readsForm_93 (q := 96) rfl mi_X4_number ml_X4_160 rcM ⟨rfl, rfl, by decide, by decide⟩ rfl (Nat.le_of_ble_eq_true rfl) (c_X4_number (by omega) h6 (of_decide_eq_true h_87).1 hT) ?_
            refine pw_ifB_eq hX (tgt := 103) dX4_readsForm_96 (q := 99) rfl (by decide) (fun h_96 => ?_) (fun h_96 => ?_)
            · refine pw_iconst hX (k := 0) rfl (by decide) dX4_readsForm_103 (q := 104) rfl ?_
              refine pw_istore_n hX (by decide) dX4_readsForm_104 (q := 105) rfl ?_
              refine pw_iinc hX rfl (by decide) (inc1 _) dX4_readsForm_105 (q := 108) rfl ?_
              refine pw_goto hX (tgt := 71) dX4_readsForm_108 (by decide) ?_
              have hs : tR (V 5) (V 0 6) (tNums c) a G (k + 1) = tNum (V 5) (V 0 6) ((tR (V 5) (V 0 6) (tNums c) a G k).2.1 + 1) (tR (V 5) (V 0 6) (tNums c) a G k).2.2 (k + 1) := by rw [tR_s, if_pos h_78, if_pos h_87]
              refine pw_eq ?_ ?_ rfl (ih (by omega))
              · rw [hs]; rfl
              · rw [hs, show (tNum (V 5) (V 0 6) ((tR (V 5) (V 0 6) (tNums c) a G k).2.1 + 1) (tR (V 5) (V 0 6) (tNums c) a G k).2.2 (k + 1)).1 = _ from h_96]; rfl
            · refine pw_iconst hX (k := 1) rfl (by decide) dX4_readsForm_99 (q := 100) rfl ?_
              refine pw_goto hX (tgt := 104) dX4_readsForm_100 (by decide) ?_
              refine pw_istore_n hX (by decide) dX4_readsForm_104 (q := 105) rfl ?_
              refine pw_iinc hX rfl (by decide) (inc1 _) dX4_readsForm_105 (q := 108) rfl ?_
              refine pw_goto hX (tgt := 71) dX4_readsForm_108 (by decide) ?_
              have hs : tR (V 5) (V 0 6) (tNums c) a G (k + 1) = tNum (V 5) (V 0 6) ((tR (V 5) (V 0 6) (tNums c) a G k).2.1 + 1) (tR (V 5) (V 0 6) (tNums c) a G k).2.2 (k + 1) := by rw [tR_s, if_pos h_78, if_pos h_87]
              refine pw_eq ?_ ?_ rfl (ih (by omega))
              · rw [hs]; rfl
              · rw [hs, show (tNum (V 5) (V 0 6) ((tR (V 5) (V 0 6) (tNums c) a G k).2.1 + 1) (tR (V 5) (V 0 6) (tNums c) a G k).2.2 (k + 1)).1 = _ from h_96]; rfl
    · refine pw_istore_n hX (by decide) dX4_readsForm_49 (q := 50) rfl ?_
      refine pw_iload_n hX rfl dX4_readsForm_50 (q := 51) rfl ?_
      refine pw_ifN_le hX (by first | omega | (have h9 := hT a (by omega); omega)) (tgt := 66) dX4_readsForm_51 (q := 54) rfl (by decide) (fun h_51 => ?_) (fun h_51 => ?_)
      · refine pw_iconst hX (k := 0) rfl (by decide) dX4_readsForm_66 (q := 67) rfl ?_
        first | exact J49 | (refine pw_fg hX (lv' := [some (.ref (g_ad g 9 0)), some (.int (nI c)), some (.int (nI (tNums c))), none, none]) (by repeat first | exact lle_nil | refine lle_cons ?_ | refine lle_none ?_) ?_; exact pw_eq (by first | rw [show tR (V 5) (V 0 6) (tNums c) a G 0 = tNum (V 5) (V 0 6) a G 0 from if_neg (by omega)]; rfl | rw [show tR (V 5) (V 0 6) (tNums c) a G 0 = (false, a, G) from if_pos (by omega)]) rfl (by first | (rw [show tR (V 5) (V 0 6) (tNums c) a G 0 = tNum (V 5) (V 0 6) a G 0 from if_neg (by omega), show (tNum (V 5) (V 0 6) a G 0).1 = true from h_59]; rfl) | (rw [show tR (V 5) (V 0 6) (tNums c) a G 0 = tNum (V 5) (V 0 6) a G 0 from if_neg (by omega), show (tNum (V 5) (V 0 6) a G 0).1 = false from h_59]; rfl) | (rw [show tR (V 5) (V 0 6) (tNums c) a G 0 = (false, a, G) from if_pos (by omega)]; rfl)) J49)
      · refine pw_aload_n hX rfl dX4_readsForm_54 (q := 55) rfl ?_
        refine pw_iconst hX (k := 0) rfl (by decide) dX4_readsForm_55 (q := 56) rfl ?_
        refine pw_cvI1 hX dX4_readsForm_56 (q := 59) rfl mi_X4_number ml_X4_160 rcM ⟨rfl, rfl, by decide, by decide⟩ rfl (Nat.le_of_ble_eq_true rfl) (c_X4_number (by decide) h6 ha hT) ?_
        refine pw_ifB_eq hX (tgt := 66) dX4_readsForm_59 (q := 62) rfl (by decide) (fun h_59 => ?_) (fun h_59 => ?_)
        · refine pw_iconst hX (k := 0) rfl (by decide) dX4_readsForm_66 (q := 67) rfl ?_
          first | exact J49 | (refine pw_fg hX (lv' := [some (.ref (g_ad g 9 0)), some (.int (nI c)), some (.int (nI (tNums c))), none, none]) (by repeat first | exact lle_nil | refine lle_cons ?_ | refine lle_none ?_) ?_; exact pw_eq (by first | rw [show tR (V 5) (V 0 6) (tNums c) a G 0 = tNum (V 5) (V 0 6) a G 0 from if_neg (by omega)]; rfl | rw [show tR (V 5) (V 0 6) (tNums c) a G 0 = (false, a, G) from if_pos (by omega)]) rfl (by first | (rw [show tR (V 5) (V 0 6) (tNums c) a G 0 = tNum (V 5) (V 0 6) a G 0 from if_neg (by omega), show (tNum (V 5) (V 0 6) a G 0).1 = true from h_59]; rfl) | (rw [show tR (V 5) (V 0 6) (tNums c) a G 0 = tNum (V 5) (V 0 6) a G 0 from if_neg (by omega), show (tNum (V 5) (V 0 6) a G 0).1 = false from h_59]; rfl) | (rw [show tR (V 5) (V 0 6) (tNums c) a G 0 = (false, a, G) from if_pos (by omega)]; rfl)) J49)
        · refine pw_iconst hX (k := 1) rfl (by decide) dX4_readsForm_62 (q := 63) rfl ?_
          refine pw_goto hX (tgt := 67) dX4_readsForm_63 (by decide) ?_
          first | exact J49 | (refine pw_fg hX (lv' := [some (.ref (g_ad g 9 0)), some (.int (nI c)), some (.int (nI (tNums c))), none, none]) (by repeat first | exact lle_nil | refine lle_cons ?_ | refine lle_none ?_) ?_; exact pw_eq (by first | rw [show tR (V 5) (V 0 6) (tNums c) a G 0 = tNum (V 5) (V 0 6) a G 0 from if_neg (by omega)]; rfl | rw [show tR (V 5) (V 0 6) (tNums c) a G 0 = (false, a, G) from if_pos (by omega)]) rfl (by first | (rw [show tR (V 5) (V 0 6) (tNums c) a G 0 = tNum (V 5) (V 0 6) a G 0 from if_neg (by omega), show (tNum (V 5) (V 0 6) a G 0).1 = true from h_59]; rfl) | (rw [show tR (V 5) (V 0 6) (tNums c) a G 0 = tNum (V 5) (V 0 6) a G 0 from if_neg (by omega), show (tNum (V 5) (V 0 6) a G 0).1 = false from h_59]; rfl) | (rw [show tR (V 5) (V 0 6) (tNums c) a G 0 = (false, a, G) from if_pos (by omega)]; rfl)) J49)
  · refine pw_iload_n hX rfl dX4_readsForm_0 (q := 1) rfl ?_
    refine pw_bipush hX (k := 116) (by decide) dX4_readsForm_1 (q := 3) rfl ?_
    refine pw_icmpN_ne hX (by first | omega | (have h9 := hT a (by omega); omega)) (by first | omega | (have h9 := hT a (by omega); omega)) (tgt := 10) dX4_readsForm_3 (q := 6) rfl (by decide) (fun h_3 => ?_) (fun h_3 => ?_)
    · refine pw_iload_n hX rfl dX4_readsForm_10 (q := 11) rfl ?_
      refine pw_bipush hX (k := 98) (by decide) dX4_readsForm_11 (q := 13) rfl ?_
      refine pw_icmpN_eq hX (by first | omega | (have h9 := hT a (by omega); omega)) (by first | omega | (have h9 := hT a (by omega); omega)) (tgt := 22) dX4_readsForm_13 (q := 16) rfl (by decide) (fun h_13 => ?_) (fun h_13 => ?_)
      · refine pw_iconst hX (k := 2) rfl (by decide) dX4_readsForm_22 (q := 23) rfl ?_
        refine pw_goto hX (tgt := 49) dX4_readsForm_23 (by decide) ?_
        exact pw_eq rfl rfl (by unfold tNums; simp [*]) J0
      · refine pw_iload_n hX rfl dX4_readsForm_16 (q := 17) rfl ?_
        refine pw_bipush hX (k := 109) (by decide) dX4_readsForm_17 (q := 19) rfl ?_
        refine pw_icmpN_ne hX (by first | omega | (have h9 := hT a (by omega); omega)) (by first | omega | (have h9 := hT a (by omega); omega)) (tgt := 26) dX4_readsForm_19 (q := 22) rfl (by decide) (fun h_19 => ?_) (fun h_19 => ?_)
        · refine pw_iload_n hX rfl dX4_readsForm_26 (q := 27) rfl ?_
          refine pw_bipush hX (k := 115) (by decide) dX4_readsForm_27 (q := 29) rfl ?_
          refine pw_icmpN_eq hX (by first | omega | (have h9 := hT a (by omega); omega)) (by first | omega | (have h9 := hT a (by omega); omega)) (tgt := 44) dX4_readsForm_29 (q := 32) rfl (by decide) (fun h_29 => ?_) (fun h_29 => ?_)
          · refine pw_iconst hX (k := 1) rfl (by decide) dX4_readsForm_44 (q := 45) rfl ?_
            refine pw_goto hX (tgt := 49) dX4_readsForm_45 (by decide) ?_
            exact pw_eq rfl rfl (by unfold tNums; simp [*]) J0
          · refine pw_iload_n hX rfl dX4_readsForm_32 (q := 33) rfl ?_
            refine pw_bipush hX (k := 119) (by decide) dX4_readsForm_33 (q := 35) rfl ?_
            refine pw_icmpN_eq hX (by first | omega | (have h9 := hT a (by omega); omega)) (by first | omega | (have h9 := hT a (by omega); omega)) (tgt := 44) dX4_readsForm_35 (q := 38) rfl (by decide) (fun h_35 => ?_) (fun h_35 => ?_)
            · refine pw_iconst hX (k := 1) rfl (by decide) dX4_readsForm_44 (q := 45) rfl ?_
              refine pw_goto hX (tgt := 49) dX4_readsForm_45 (by decide) ?_
              exact pw_eq rfl rfl (by unfold tNums; simp [*]) J0
            · refine pw_iload_n hX rfl dX4_readsForm_38 (q := 39) rfl ?_
              refine pw_bipush hX (k := 110) (by decide) dX4_readsForm_39 (q := 41) rfl ?_
              refine pw_icmpN_ne hX (by first | omega | (have h9 := hT a (by omega); omega)) (by first | omega | (have h9 := hT a (by omega); omega)) (tgt := 48) dX4_readsForm_41 (q := 44) rfl (by decide) (fun h_41 => ?_) (fun h_41 => ?_)
              · refine pw_iconst hX (k := 0) rfl (by decide) dX4_readsForm_48 (q := 49) rfl ?_
                exact pw_eq rfl rfl (by unfold tNums; simp [*]) J0
              · refine pw_iconst hX (k := 1) rfl (by decide) dX4_readsForm_44 (q := 45) rfl ?_
                refine pw_goto hX (tgt := 49) dX4_readsForm_45 (by decide) ?_
                exact pw_eq rfl rfl (by unfold tNums; simp [*]) J0
        · refine pw_iconst hX (k := 2) rfl (by decide) dX4_readsForm_22 (q := 23) rfl ?_
          refine pw_goto hX (tgt := 49) dX4_readsForm_23 (by decide) ?_
          exact pw_eq rfl rfl (by unfold tNums; simp [*]) J0
    · refine pw_iconst hX (k := 3) rfl (by decide) dX4_readsForm_6 (q := 7) rfl ?_
      refine pw_goto hX (tgt := 49) dX4_readsForm_7 (by decide) ?_
      exact pw_eq rfl rfl (by unfold tNums; simp [*]) J0
abbrev rm_X4_isThere : Room := { frames := 2, cells := 0, slots := 0, locals := 43 }
set_option maxHeartbeats 800000 in
set_option maxRecDepth 20000 in
theorem c_X4_isThere {l : Launch} {g : Geo} {w : WD} {V : Nat → Nat → Nat} {S : Nat → Nat} {a r : Nat} {G : Nat → Nat} {c : Nat} (hc : c < 2 ^ 31) (hB : bS S) : CtI l g yX4_isThere cX4_isThere 4 (some .boolean) rm_X4_isThere [.ref (g_ad g 9 0), .int (nI c)] (mW w (tV V a r G) S) (bI (tThere S c G)) (mW w (tV V a r G) S) := by
  refine ct_of mi_X4_isThere.2.2.2.2.2 ⟨rfl, rfl⟩ (List.forall_mem_cons.mpr ⟨rfl, List.forall_mem_cons.mpr ⟨rfl, fun _ h => absurd h List.not_mem_nil⟩⟩) (Nat.le_of_ble_eq_true rfl) (fun P hX => ?_)
  replace hX : Gd l g RX4 cX4_isThere rm_X4_isThere 4 (some .boolean) _ _ P := hX
  show P (mW w (tV V a r G) S) 0 [some (.ref (g_ad g 9 0)), some (.int (nI c)), none, none] []
  have h7 := hB.2.2.1
  have h7 := hB.2.2.1
  refine pw_iload_n hX rfl dX4_isThere_0 (q := 1) rfl ?_
  refine pw_bipush hX (k := 110) (by decide) dX4_isThere_1 (q := 3) rfl ?_
  refine pw_icmpN_eq hX (by first | omega | exact bS0 hB | exact bSw hB (by omega) (by omega) (by omega) | exact bSe hB (by omega) (by omega) | exact bS1 hB | exact bS2 hB) (by first | omega | exact bS0 hB | exact bSw hB (by omega) (by omega) (by omega) | exact bSe hB (by omega) (by omega) | exact bS1 hB | exact bS2 hB) (tgt := 19) dX4_isThere_3 (q := 6) rfl (by decide) (fun h_3 => ?_) (fun h_3 => ?_)
  · refine pw_iconst hX (k := 1) rfl (by decide) dX4_isThere_19 (q := 20) rfl ?_
    refine pw_goto hX (tgt := 24) dX4_isThere_20 (by decide) ?_
    refine pw_istore_n hX (by decide) dX4_isThere_24 (q := 25) rfl ?_
    refine pw_iload_n hX rfl dX4_isThere_25 (q := 26) rfl ?_
    refine pw_bipush hX (k := 109) (by decide) dX4_isThere_26 (q := 28) rfl ?_
    refine pw_icmpN_ne hX (by first | omega | exact bS0 hB | exact bSw hB (by omega) (by omega) (by omega) | exact bSe hB (by omega) (by omega) | exact bS1 hB | exact bS2 hB) (by first | omega | exact bS0 hB | exact bSw hB (by omega) (by omega) (by omega) | exact bSe hB (by omega) (by omega) | exact bS1 hB | exact bS2 hB) (tgt := 44) dX4_isThere_28 (q := 31) rfl (by decide) (fun h_28 => ?_) (fun h_28 => ?_)
    · refine pw_iload_n hX rfl dX4_isThere_44 (q := 45) rfl ?_
      refine pw_bipush hX (k := 116) (by decide) dX4_isThere_45 (q := 47) rfl ?_
      refine pw_icmpN_eq hX (by first | omega | exact bS0 hB | exact bSw hB (by omega) (by omega) (by omega) | exact bSe hB (by omega) (by omega) | exact bS1 hB | exact bS2 hB) (by first | omega | exact bS0 hB | exact bSw hB (by omega) (by omega) (by omega) | exact bSe hB (by omega) (by omega) | exact bS1 hB | exact bS2 hB) (tgt := 56) dX4_isThere_47 (q := 50) rfl (by decide) (fun h_47 => ?_) (fun h_47 => ?_)
      · refine pw_aload_n hX rfl dX4_isThere_56 (q := 57) rfl ?_
        refine pw_getMS hX 9 (by decide) fl_X4_26 rfl dX4_isThere_57 (q := 60) rfl ?_
        refine pw_iconst hX (k := 1) rfl (by decide) dX4_isThere_60 (q := 61) rfl ?_
        refine pw_ialdMS hX 6 (by decide) (show _ < 3 by omega) dX4_isThere_61 (q := 62) rfl ?_
        repeat first | rw [tV_7] | rw [tV_8] | rw [tV_x] | rw [tV_t] | rw [tV_g] | rw [tV_p7] | rw [tV_p8] | rw [tV_pg] | rw [upN_s]
        refine pw_csI1 hX dX4_isThere_62 (q := 65) rfl mi_X4_isTopic ml_X4_88 ⟨rfl, rfl, by decide, by decide⟩ rfl (Nat.le_of_ble_eq_true rfl) (c_X4_isTopic) ?_
        refine pw_ifB_eq hX (tgt := 72) dX4_isThere_65 (q := 68) rfl (by decide) (fun h_65 => ?_) (fun h_65 => ?_)
        · refine pw_iconst hX (k := 0) rfl (by decide) dX4_isThere_72 (q := 73) rfl ?_
          refine pw_istore_n hX (by decide) dX4_isThere_73 (q := 74) rfl ?_
          refine pw_iload_n hX rfl dX4_isThere_74 (q := 75) rfl ?_
          refine pw_ifN_eq hX (by first | omega | exact bS0 hB | exact bSw hB (by omega) (by omega) (by omega) | exact bSe hB (by omega) (by omega) | exact bS1 hB | exact bS2 hB) (tgt := 86) dX4_isThere_75 (q := 78) rfl (by decide) (fun h_75 => ?_) (fun h_75 => ?_)
          · refine pw_iconst hX (k := 0) rfl (by decide) dX4_isThere_86 (q := 87) rfl ?_
            refine pw_ireturn hX dX4_isThere_87 ⟨_, rfl, by first | exact bI_nar _ | decide | rfl⟩ ⟨congrArg (fun z => some (Value.int z)) ?_, ?_⟩
            · clear hX hB h7; first | (exfalso; omega) | (rw [show tThere S c G = false by unfold tThere; simp_all]; rfl) | (rw [show tThere S c G = true by unfold tThere; simp_all]; rfl)
            · rfl
          · refine pw_iload_n hX rfl dX4_isThere_78 (q := 79) rfl ?_
            refine pw_ifN_eq hX (by first | omega | exact bS0 hB | exact bSw hB (by omega) (by omega) (by omega) | exact bSe hB (by omega) (by omega) | exact bS1 hB | exact bS2 hB) (tgt := 86) dX4_isThere_79 (q := 82) rfl (by decide) (fun h_79 => ?_) (fun h_79 => ?_)
            · refine pw_iconst hX (k := 0) rfl (by decide) dX4_isThere_86 (q := 87) rfl ?_
              refine pw_ireturn hX dX4_isThere_87 ⟨_, rfl, by first | exact bI_nar _ | decide | rfl⟩ ⟨congrArg (fun z => some (Value.int z)) ?_, ?_⟩
              · clear hX hB h7; first | (exfalso; omega) | (rw [show tThere S c G = false by unfold tThere; simp_all]; rfl) | (rw [show tThere S c G = true by unfold tThere; simp_all]; rfl)
              · rfl
            · refine pw_iconst hX (k := 1) rfl (by decide) dX4_isThere_82 (q := 83) rfl ?_
              refine pw_goto hX (tgt := 87) dX4_isThere_83 (by decide) ?_
              refine pw_ireturn hX dX4_isThere_87 ⟨_, rfl, by first | exact bI_nar _ | decide | rfl⟩ ⟨congrArg (fun z => some (Value.int z)) ?_, ?_⟩
              · clear hX hB h7; first | (exfalso; omega) | (rw [show tThere S c G = false by unfold tThere; simp_all]; rfl) | (rw [show tThere S c G = true by unfold tThere; simp_all]; rfl)
              · rfl
        · refine pw_iconst hX (k := 1) rfl (by decide) dX4_isThere_68 (q := 69) rfl ?_
          refine pw_goto hX (tgt := 73) dX4_isThere_69 (by decide) ?_
          refine pw_istore_n hX (by decide) dX4_isThere_73 (q := 74) rfl ?_
          refine pw_iload_n hX rfl dX4_isThere_74 (q := 75) rfl ?_
          refine pw_ifN_eq hX (by first | omega | exact bS0 hB | exact bSw hB (by omega) (by omega) (by omega) | exact bSe hB (by omega) (by omega) | exact bS1 hB | exact bS2 hB) (tgt := 86) dX4_isThere_75 (q := 78) rfl (by decide) (fun h_75 => ?_) (fun h_75 => ?_)
          · refine pw_iconst hX (k := 0) rfl (by decide) dX4_isThere_86 (q := 87) rfl ?_
            refine pw_ireturn hX dX4_isThere_87 ⟨_, rfl, by first | exact bI_nar _ | decide | rfl⟩ ⟨congrArg (fun z => some (Value.int z)) ?_, ?_⟩
            · clear hX hB h7; first | (exfalso; omega) | (rw [show tThere S c G = false by unfold tThere; simp_all]; rfl) | (rw [show tThere S c G = true by unfold tThere; simp_all]; rfl)
            · rfl
          · refine pw_iload_n hX rfl dX4_isThere_78 (q := 79) rfl ?_
            refine pw_ifN_eq hX (by first | omega | exact bS0 hB | exact bSw hB (by omega) (by omega) (by omega) | exact bSe hB (by omega) (by omega) | exact bS1 hB | exact bS2 hB) (tgt := 86) dX4_isThere_79 (q := 82) rfl (by decide) (fun h_79 => ?_) (fun h_79 => ?_)
            · refine pw_iconst hX (k := 0) rfl (by decide) dX4_isThere_86 (q := 87) rfl ?_
              refine pw_ireturn hX dX4_isThere_87 ⟨_, rfl, by first | exact bI_nar _ | decide | rfl⟩ ⟨congrArg (fun z => some (Value.int z)) ?_, ?_⟩
              · clear hX hB h7; first | (exfalso; omega) | (rw [show tThere S c G = false by unfold tThere; simp_all]; rfl) | (rw [show tThere S c G = true by unfold tThere; simp_all]; rfl)
              · rfl
            · refine pw_iconst hX (k := 1) rfl (by decide) dX4_isThere_82 (q := 83) rfl ?_
              refine pw_goto hX (tgt := 87) dX4_isThere_83 (by decide) ?_
              refine pw_ireturn hX dX4_isThere_87 ⟨_, rfl, by first | exact bI_nar _ | decide | rfl⟩ ⟨congrArg (fun z => some (Value.int z)) ?_, ?_⟩
              · clear hX hB h7; first | (exfalso; omega) | (rw [show tThere S c G = false by unfold tThere; simp_all]; rfl) | (rw [show tThere S c G = true by unfold tThere; simp_all]; rfl)
              · rfl
      · refine pw_iload_n hX rfl dX4_isThere_50 (q := 51) rfl ?_
        refine pw_bipush hX (k := 98) (by decide) dX4_isThere_51 (q := 53) rfl ?_
        refine pw_icmpN_ne hX (by first | omega | exact bS0 hB | exact bSw hB (by omega) (by omega) (by omega) | exact bSe hB (by omega) (by omega) | exact bS1 hB | exact bS2 hB) (by first | omega | exact bS0 hB | exact bSw hB (by omega) (by omega) (by omega) | exact bSe hB (by omega) (by omega) | exact bS1 hB | exact bS2 hB) (tgt := 68) dX4_isThere_53 (q := 56) rfl (by decide) (fun h_53 => ?_) (fun h_53 => ?_)
        · refine pw_iconst hX (k := 1) rfl (by decide) dX4_isThere_68 (q := 69) rfl ?_
          refine pw_goto hX (tgt := 73) dX4_isThere_69 (by decide) ?_
          refine pw_istore_n hX (by decide) dX4_isThere_73 (q := 74) rfl ?_
          refine pw_iload_n hX rfl dX4_isThere_74 (q := 75) rfl ?_
          refine pw_ifN_eq hX (by first | omega | exact bS0 hB | exact bSw hB (by omega) (by omega) (by omega) | exact bSe hB (by omega) (by omega) | exact bS1 hB | exact bS2 hB) (tgt := 86) dX4_isThere_75 (q := 78) rfl (by decide) (fun h_75 => ?_) (fun h_75 => ?_)
          · refine pw_iconst hX (k := 0) rfl (by decide) dX4_isThere_86 (q := 87) rfl ?_
            refine pw_ireturn hX dX4_isThere_87 ⟨_, rfl, by first | exact bI_nar _ | decide | rfl⟩ ⟨congrArg (fun z => some (Value.int z)) ?_, ?_⟩
            · clear hX hB h7; first | (exfalso; omega) | (rw [show tThere S c G = false by unfold tThere; simp_all]; rfl) | (rw [show tThere S c G = true by unfold tThere; simp_all]; rfl)
            · rfl
          · refine pw_iload_n hX rfl dX4_isThere_78 (q := 79) rfl ?_
            refine pw_ifN_eq hX (by first | omega | exact bS0 hB | exact bSw hB (by omega) (by omega) (by omega) | exact bSe hB (by omega) (by omega) | exact bS1 hB | exact bS2 hB) (tgt := 86) dX4_isThere_79 (q := 82) rfl (by decide) (fun h_79 => ?_) (fun h_79 => ?_)
            · refine pw_iconst hX (k := 0) rfl (by decide) dX4_isThere_86 (q := 87) rfl ?_
              refine pw_ireturn hX dX4_isThere_87 ⟨_, rfl, by first | exact bI_nar _ | decide | rfl⟩ ⟨congrArg (fun z => some (Value.int z)) ?_, ?_⟩
              · clear hX hB h7; first | (exfalso; omega) | (rw [show tThere S c G = false by unfold tThere; simp_all]; rfl) | (rw [show tThere S c G = true by unfold tThere; simp_all]; rfl)
              · rfl
            · refine pw_iconst hX (k := 1) rfl (by decide) dX4_isThere_82 (q := 83) rfl ?_
              refine pw_goto hX (tgt := 87) dX4_isThere_83 (by decide) ?_
              refine pw_ireturn hX dX4_isThere_87 ⟨_, rfl, by first | exact bI_nar _ | decide | rfl⟩ ⟨congrArg (fun z => some (Value.int z)) ?_, ?_⟩
              · clear hX hB h7; first | (exfalso; omega) | (rw [show tThere S c G = false by unfold tThere; simp_all]; rfl) | (rw [show tThere S c G = true by unfold tThere; simp_all]; rfl)
              · rfl
        · refine pw_aload_n hX rfl dX4_isThere_56 (q := 57) rfl ?_
          refine pw_getMS hX 9 (by decide) fl_X4_26 rfl dX4_isThere_57 (q := 60) rfl ?_
          refine pw_iconst hX (k := 1) rfl (by decide) dX4_isThere_60 (q := 61) rfl ?_
          refine pw_ialdMS hX 6 (by decide) (show _ < 3 by omega) dX4_isThere_61 (q := 62) rfl ?_
          repeat first | rw [tV_7] | rw [tV_8] | rw [tV_x] | rw [tV_t] | rw [tV_g] | rw [tV_p7] | rw [tV_p8] | rw [tV_pg] | rw [upN_s]
          refine pw_csI1 hX dX4_isThere_62 (q := 65) rfl mi_X4_isTopic ml_X4_88 ⟨rfl, rfl, by decide, by decide⟩ rfl (Nat.le_of_ble_eq_true rfl) (c_X4_isTopic) ?_
          refine pw_ifB_eq hX (tgt := 72) dX4_isThere_65 (q := 68) rfl (by decide) (fun h_65 => ?_) (fun h_65 => ?_)
          · refine pw_iconst hX (k := 0) rfl (by decide) dX4_isThere_72 (q := 73) rfl ?_
            refine pw_istore_n hX (by decide) dX4_isThere_73 (q := 74) rfl ?_
            refine pw_iload_n hX rfl dX4_isThere_74 (q := 75) rfl ?_
            refine pw_ifN_eq hX (by first | omega | exact bS0 hB | exact bSw hB (by omega) (by omega) (by omega) | exact bSe hB (by omega) (by omega) | exact bS1 hB | exact bS2 hB) (tgt := 86) dX4_isThere_75 (q := 78) rfl (by decide) (fun h_75 => ?_) (fun h_75 => ?_)
            · refine pw_iconst hX (k := 0) rfl (by decide) dX4_isThere_86 (q := 87) rfl ?_
              refine pw_ireturn hX dX4_isThere_87 ⟨_, rfl, by first | exact bI_nar _ | decide | rfl⟩ ⟨congrArg (fun z => some (Value.int z)) ?_, ?_⟩
              · clear hX hB h7; first | (exfalso; omega) | (rw [show tThere S c G = false by unfold tThere; simp_all]; rfl) | (rw [show tThere S c G = true by unfold tThere; simp_all]; rfl)
              · rfl
            · refine pw_iload_n hX rfl dX4_isThere_78 (q := 79) rfl ?_
              refine pw_ifN_eq hX (by first | omega | exact bS0 hB | exact bSw hB (by omega) (by omega) (by omega) | exact bSe hB (by omega) (by omega) | exact bS1 hB | exact bS2 hB) (tgt := 86) dX4_isThere_79 (q := 82) rfl (by decide) (fun h_79 => ?_) (fun h_79 => ?_)
              · refine pw_iconst hX (k := 0) rfl (by decide) dX4_isThere_86 (q := 87) rfl ?_
                refine pw_ireturn hX dX4_isThere_87 ⟨_, rfl, by first | exact bI_nar _ | decide | rfl⟩ ⟨congrArg (fun z => some (Value.int z)) ?_, ?_⟩
                · clear hX hB h7; first | (exfalso; omega) | (rw [show tThere S c G = false by unfold tThere; simp_all]; rfl) | (rw [show tThere S c G = true by unfold tThere; simp_all]; rfl)
                · rfl
              · refine pw_iconst hX (k := 1) rfl (by decide) dX4_isThere_82 (q := 83) rfl ?_
                refine pw_goto hX (tgt := 87) dX4_isThere_83 (by decide) ?_
                refine pw_ireturn hX dX4_isThere_87 ⟨_, rfl, by first | exact bI_nar _ | decide | rfl⟩ ⟨congrArg (fun z => some (Value.int z)) ?_, ?_⟩
                · clear hX hB h7; first | (exfalso; omega) | (rw [show tThere S c G = false by unfold tThere; simp_all]; rfl) | (rw [show tThere S c G = true by unfold tThere; simp_all]; rfl)
                · rfl
          · refine pw_iconst hX (k := 1) rfl (by decide) dX4_isThere_68 (q := 69) rfl ?_
            refine pw_goto hX (tgt := 73) dX4_isThere_69 (by decide) ?_
            refine pw_istore_n hX (by decide) dX4_isThere_73 (q := 74) rfl ?_
            refine pw_iload_n hX rfl dX4_isThere_74 (q := 75) rfl ?_
            refine pw_ifN_eq hX (by first | omega | exact bS0 hB | exact bSw hB (by omega) (by omega) (by omega) | exact bSe hB (by omega) (by omega) | exact bS1 hB | exact bS2 hB) (tgt := 86) dX4_isThere_75 (q := 78) rfl (by decide) (fun h_75 => ?_) (fun h_75 => ?_)
            · refine pw_iconst hX (k := 0) rfl (by decide) dX4_isThere_86 (q := 87) rfl ?_
              refine pw_ireturn hX dX4_isThere_87 ⟨_, rfl, by first | exact bI_nar _ | decide | rfl⟩ ⟨congrArg (fun z => some (Value.int z)) ?_, ?_⟩
              · clear hX hB h7; first | (exfalso; omega) | (rw [show tThere S c G = false by unfold tThere; simp_all]; rfl) | (rw [show tThere S c G = true by unfold tThere; simp_all]; rfl)
              · rfl
            · refine pw_iload_n hX rfl dX4_isThere_78 (q := 79) rfl ?_
              refine pw_ifN_eq hX (by first | omega | exact bS0 hB | exact bSw hB (by omega) (by omega) (by omega) | exact bSe hB (by omega) (by omega) | exact bS1 hB | exact bS2 hB) (tgt := 86) dX4_isThere_79 (q := 82) rfl (by decide) (fun h_79 => ?_) (fun h_79 => ?_)
              · refine pw_iconst hX (k := 0) rfl (by decide) dX4_isThere_86 (q := 87) rfl ?_
                refine pw_ireturn hX dX4_isThere_87 ⟨_, rfl, by first | exact bI_nar _ | decide | rfl⟩ ⟨congrArg (fun z => some (Value.int z)) ?_, ?_⟩
                · clear hX hB h7; first | (exfalso; omega) | (rw [show tThere S c G = false by unfold tThere; simp_all]; rfl) | (rw [show tThere S c G = true by unfold tThere; simp_all]; rfl)
                · rfl
              · refine pw_iconst hX (k := 1) rfl (by decide) dX4_isThere_82 (q := 83) rfl ?_
                refine pw_goto hX (tgt := 87) dX4_isThere_83 (by decide) ?_
                refine pw_ireturn hX dX4_isThere_87 ⟨_, rfl, by first | exact bI_nar _ | decide | rfl⟩ ⟨congrArg (fun z => some (Value.int z)) ?_, ?_⟩
                · clear hX hB h7; first | (exfalso; omega) | (rw [show tThere S c G = false by unfold tThere; simp_all]; rfl) | (rw [show tThere S c G = true by unfold tThere; simp_all]; rfl)
                · rfl
    · refine pw_aload_n hX rfl dX4_isThere_31 (q := 32) rfl ?_
      refine pw_aload_n hX rfl dX4_isThere_32 (q := 33) rfl ?_
      refine pw_getMS hX 9 (by decide) fl_X4_26 rfl dX4_isThere_33 (q := 36) rfl ?_
      refine pw_iconst hX (k := 1) rfl (by decide) dX4_isThere_36 (q := 37) rfl ?_
      refine pw_ialdMS hX 6 (by decide) (show _ < 3 by omega) dX4_isThere_37 (q := 38) rfl ?_
      repeat first | rw [tV_7] | rw [tV_8] | rw [tV_x] | rw [tV_t] | rw [tV_g] | rw [tV_p7] | rw [tV_p8] | rw [tV_pg] | rw [upN_s]
      refine pw_cvI1 hX dX4_isThere_38 (q := 41) rfl mi_X4_isVillager ml_X4_53 rcM ⟨rfl, rfl, by decide, by decide⟩ rfl (Nat.le_of_ble_eq_true rfl) (c_X4_isVillager h7) ?_
      refine pw_goto hX (tgt := 73) dX4_isThere_41 (by decide) ?_
      refine pw_istore_n hX (by decide) dX4_isThere_73 (q := 74) rfl ?_
      refine pw_iload_n hX rfl dX4_isThere_74 (q := 75) rfl ?_
      refine pw_ifN_eq hX (by first | omega | exact bS0 hB | exact bSw hB (by omega) (by omega) (by omega) | exact bSe hB (by omega) (by omega) | exact bS1 hB | exact bS2 hB) (tgt := 86) dX4_isThere_75 (q := 78) rfl (by decide) (fun h_75 => ?_) (fun h_75 => ?_)
      · refine pw_iconst hX (k := 0) rfl (by decide) dX4_isThere_86 (q := 87) rfl ?_
        refine pw_ireturn hX dX4_isThere_87 ⟨_, rfl, by first | exact bI_nar _ | decide | rfl⟩ ⟨congrArg (fun z => some (Value.int z)) ?_, ?_⟩
        · clear hX hB h7; first | (exfalso; omega) | (rw [show tThere S c G = false by unfold tThere; simp_all]; rfl) | (rw [show tThere S c G = true by unfold tThere; simp_all]; rfl)
        · rfl
      · refine pw_iload_n hX rfl dX4_isThere_78 (q := 79) rfl ?_
        refine pw_ifB_eq hX (tgt := 86) dX4_isThere_79 (q := 82) rfl (by decide) (fun h_79 => ?_) (fun h_79 => ?_)
        · refine pw_iconst hX (k := 0) rfl (by decide) dX4_isThere_86 (q := 87) rfl ?_
          refine pw_ireturn hX dX4_isThere_87 ⟨_, rfl, by first | exact bI_nar _ | decide | rfl⟩ ⟨congrArg (fun z => some (Value.int z)) ?_, ?_⟩
          · clear hX hB h7; first | (exfalso; omega) | (rw [show tThere S c G = false by unfold tThere; simp_all]; rfl) | (rw [show tThere S c G = true by unfold tThere; simp_all]; rfl)
          · rfl
        · refine pw_iconst hX (k := 1) rfl (by decide) dX4_isThere_82 (q := 83) rfl ?_
          refine pw_goto hX (tgt := 87) dX4_isThere_83 (by decide) ?_
          refine pw_ireturn hX dX4_isThere_87 ⟨_, rfl, by first | exact bI_nar _ | decide | rfl⟩ ⟨congrArg (fun z => some (Value.int z)) ?_, ?_⟩
          · clear hX hB h7; first | (exfalso; omega) | (rw [show tThere S c G = false by unfold tThere; simp_all]; rfl) | (rw [show tThere S c G = true by unfold tThere; simp_all]; rfl)
          · rfl
  · refine pw_aload_n hX rfl dX4_isThere_6 (q := 7) rfl ?_
    refine pw_aload_n hX rfl dX4_isThere_7 (q := 8) rfl ?_
    refine pw_getMS hX 9 (by decide) fl_X4_26 rfl dX4_isThere_8 (q := 11) rfl ?_
    refine pw_iconst hX (k := 0) rfl (by decide) dX4_isThere_11 (q := 12) rfl ?_
    refine pw_ialdMS hX 6 (by decide) (show _ < 3 by omega) dX4_isThere_12 (q := 13) rfl ?_
    repeat first | rw [tV_7] | rw [tV_8] | rw [tV_x] | rw [tV_t] | rw [tV_g] | rw [tV_p7] | rw [tV_p8] | rw [tV_pg] | rw [upN_s]
    refine pw_cvI1 hX dX4_isThere_13 (q := 16) rfl mi_X4_isVillager ml_X4_53 rcM ⟨rfl, rfl, by decide, by decide⟩ rfl (Nat.le_of_ble_eq_true rfl) (c_X4_isVillager h7) ?_
    refine pw_ifB_eq hX (tgt := 23) dX4_isThere_16 (q := 19) rfl (by decide) (fun h_16 => ?_) (fun h_16 => ?_)
    · refine pw_iconst hX (k := 0) rfl (by decide) dX4_isThere_23 (q := 24) rfl ?_
      refine pw_istore_n hX (by decide) dX4_isThere_24 (q := 25) rfl ?_
      refine pw_iload_n hX rfl dX4_isThere_25 (q := 26) rfl ?_
      refine pw_bipush hX (k := 109) (by decide) dX4_isThere_26 (q := 28) rfl ?_
      refine pw_icmpN_ne hX (by first | omega | exact bS0 hB | exact bSw hB (by omega) (by omega) (by omega) | exact bSe hB (by omega) (by omega) | exact bS1 hB | exact bS2 hB) (by first | omega | exact bS0 hB | exact bSw hB (by omega) (by omega) (by omega) | exact bSe hB (by omega) (by omega) | exact bS1 hB | exact bS2 hB) (tgt := 44) dX4_isThere_28 (q := 31) rfl (by decide) (fun h_28 => ?_) (fun h_28 => ?_)
      · refine pw_iload_n hX rfl dX4_isThere_44 (q := 45) rfl ?_
        refine pw_bipush hX (k := 116) (by decide) dX4_isThere_45 (q := 47) rfl ?_
        refine pw_icmpN_eq hX (by first | omega | exact bS0 hB | exact bSw hB (by omega) (by omega) (by omega) | exact bSe hB (by omega) (by omega) | exact bS1 hB | exact bS2 hB) (by first | omega | exact bS0 hB | exact bSw hB (by omega) (by omega) (by omega) | exact bSe hB (by omega) (by omega) | exact bS1 hB | exact bS2 hB) (tgt := 56) dX4_isThere_47 (q := 50) rfl (by decide) (fun h_47 => ?_) (fun h_47 => ?_)
        · refine pw_aload_n hX rfl dX4_isThere_56 (q := 57) rfl ?_
          refine pw_getMS hX 9 (by decide) fl_X4_26 rfl dX4_isThere_57 (q := 60) rfl ?_
          refine pw_iconst hX (k := 1) rfl (by decide) dX4_isThere_60 (q := 61) rfl ?_
          refine pw_ialdMS hX 6 (by decide) (show _ < 3 by omega) dX4_isThere_61 (q := 62) rfl ?_
          repeat first | rw [tV_7] | rw [tV_8] | rw [tV_x] | rw [tV_t] | rw [tV_g] | rw [tV_p7] | rw [tV_p8] | rw [tV_pg] | rw [upN_s]
          refine pw_csI1 hX dX4_isThere_62 (q := 65) rfl mi_X4_isTopic ml_X4_88 ⟨rfl, rfl, by decide, by decide⟩ rfl (Nat.le_of_ble_eq_true rfl) (c_X4_isTopic) ?_
          refine pw_ifB_eq hX (tgt := 72) dX4_isThere_65 (q := 68) rfl (by decide) (fun h_65 => ?_) (fun h_65 => ?_)
          · refine pw_iconst hX (k := 0) rfl (by decide) dX4_isThere_72 (q := 73) rfl ?_
            refine pw_istore_n hX (by decide) dX4_isThere_73 (q := 74) rfl ?_
            refine pw_iload_n hX rfl dX4_isThere_74 (q := 75) rfl ?_
            refine pw_ifN_eq hX (by first | omega | exact bS0 hB | exact bSw hB (by omega) (by omega) (by omega) | exact bSe hB (by omega) (by omega) | exact bS1 hB | exact bS2 hB) (tgt := 86) dX4_isThere_75 (q := 78) rfl (by decide) (fun h_75 => ?_) (fun h_75 => ?_)
            · refine pw_iconst hX (k := 0) rfl (by decide) dX4_isThere_86 (q := 87) rfl ?_
              refine pw_ireturn hX dX4_isThere_87 ⟨_, rfl, by first | exact bI_nar _ | decide | rfl⟩ ⟨congrArg (fun z => some (Value.int z)) ?_, ?_⟩
              · clear hX hB h7; first | (exfalso; omega) | (rw [show tThere S c G = false by unfold tThere; simp_all]; rfl) | (rw [show tThere S c G = true by unfold tThere; simp_all]; rfl)
              · rfl
            · refine pw_iload_n hX rfl dX4_isThere_78 (q := 79) rfl ?_
              refine pw_ifN_eq hX (by first | omega | exact bS0 hB | exact bSw hB (by omega) (by omega) (by omega) | exact bSe hB (by omega) (by omega) | exact bS1 hB | exact bS2 hB) (tgt := 86) dX4_isThere_79 (q := 82) rfl (by decide) (fun h_79 => ?_) (fun h_79 => ?_)
              · refine pw_iconst hX (k := 0) rfl (by decide) dX4_isThere_86 (q := 87) rfl ?_
                refine pw_ireturn hX dX4_isThere_87 ⟨_, rfl, by first | exact bI_nar _ | decide | rfl⟩ ⟨congrArg (fun z => some (Value.int z)) ?_, ?_⟩
                · clear hX hB h7; first | (exfalso; omega) | (rw [show tThere S c G = false by unfold tThere; simp_all]; rfl) | (rw [show tThere S c G = true by unfold tThere; simp_all]; rfl)
                · rfl
              · refine pw_iconst hX (k := 1) rfl (by decide) dX4_isThere_82 (q := 83) rfl ?_
                refine pw_goto hX (tgt := 87) dX4_isThere_83 (by decide) ?_
                refine pw_ireturn hX dX4_isThere_87 ⟨_, rfl, by first | exact bI_nar _ | decide | rfl⟩ ⟨congrArg (fun z => some (Value.int z)) ?_, ?_⟩
                · clear hX hB h7; first | (exfalso; omega) | (rw [show tThere S c G = false by unfold tThere; simp_all]; rfl) | (rw [show tThere S c G = true by unfold tThere; simp_all]; rfl)
                · rfl
          · refine pw_iconst hX (k := 1) rfl (by decide) dX4_isThere_68 (q := 69) rfl ?_
            refine pw_goto hX (tgt := 73) dX4_isThere_69 (by decide) ?_
            refine pw_istore_n hX (by decide) dX4_isThere_73 (q := 74) rfl ?_
            refine pw_iload_n hX rfl dX4_isThere_74 (q := 75) rfl ?_
            refine pw_ifN_eq hX (by first | omega | exact bS0 hB | exact bSw hB (by omega) (by omega) (by omega) | exact bSe hB (by omega) (by omega) | exact bS1 hB | exact bS2 hB) (tgt := 86) dX4_isThere_75 (q := 78) rfl (by decide) (fun h_75 => ?_) (fun h_75 => ?_)
            · refine pw_iconst hX (k := 0) rfl (by decide) dX4_isThere_86 (q := 87) rfl ?_
              refine pw_ireturn hX dX4_isThere_87 ⟨_, rfl, by first | exact bI_nar _ | decide | rfl⟩ ⟨congrArg (fun z => some (Value.int z)) ?_, ?_⟩
              · clear hX hB h7; first | (exfalso; omega) | (rw [show tThere S c G = false by unfold tThere; simp_all]; rfl) | (rw [show tThere S c G = true by unfold tThere; simp_all]; rfl)
              · rfl
            · refine pw_iload_n hX rfl dX4_isThere_78 (q := 79) rfl ?_
              refine pw_ifN_eq hX (by first | omega | exact bS0 hB | exact bSw hB (by omega) (by omega) (by omega) | exact bSe hB (by omega) (by omega) | exact bS1 hB | exact bS2 hB) (tgt := 86) dX4_isThere_79 (q := 82) rfl (by decide) (fun h_79 => ?_) (fun h_79 => ?_)
              · refine pw_iconst hX (k := 0) rfl (by decide) dX4_isThere_86 (q := 87) rfl ?_
                refine pw_ireturn hX dX4_isThere_87 ⟨_, rfl, by first | exact bI_nar _ | decide | rfl⟩ ⟨congrArg (fun z => some (Value.int z)) ?_, ?_⟩
                · clear hX hB h7; first | (exfalso; omega) | (rw [show tThere S c G = false by unfold tThere; simp_all]; rfl) | (rw [show tThere S c G = true by unfold tThere; simp_all]; rfl)
                · rfl
              · refine pw_iconst hX (k := 1) rfl (by decide) dX4_isThere_82 (q := 83) rfl ?_
                refine pw_goto hX (tgt := 87) dX4_isThere_83 (by decide) ?_
                refine pw_ireturn hX dX4_isThere_87 ⟨_, rfl, by first | exact bI_nar _ | decide | rfl⟩ ⟨congrArg (fun z => some (Value.int z)) ?_, ?_⟩
                · clear hX hB h7; first | (exfalso; omega) | (rw [show tThere S c G = false by unfold tThere; simp_all]; rfl) | (rw [show tThere S c G = true by unfold tThere; simp_all]; rfl)
                · rfl
        · refine pw_iload_n hX rfl dX4_isThere_50 (q := 51) rfl ?_
          refine pw_bipush hX (k := 98) (by decide) dX4_isThere_51 (q := 53) rfl ?_
          refine pw_icmpN_ne hX (by first | omega | exact bS0 hB | exact bSw hB (by omega) (by omega) (by omega) | exact bSe hB (by omega) (by omega) | exact bS1 hB | exact bS2 hB) (by first | omega | exact bS0 hB | exact bSw hB (by omega) (by omega) (by omega) | exact bSe hB (by omega) (by omega) | exact bS1 hB | exact bS2 hB) (tgt := 68) dX4_isThere_53 (q := 56) rfl (by decide) (fun h_53 => ?_) (fun h_53 => ?_)
          · refine pw_iconst hX (k := 1) rfl (by decide) dX4_isThere_68 (q := 69) rfl ?_
            refine pw_goto hX (tgt := 73) dX4_isThere_69 (by decide) ?_
            refine pw_istore_n hX (by decide) dX4_isThere_73 (q := 74) rfl ?_
            refine pw_iload_n hX rfl dX4_isThere_74 (q := 75) rfl ?_
            refine pw_ifN_eq hX (by first | omega | exact bS0 hB | exact bSw hB (by omega) (by omega) (by omega) | exact bSe hB (by omega) (by omega) | exact bS1 hB | exact bS2 hB) (tgt := 86) dX4_isThere_75 (q := 78) rfl (by decide) (fun h_75 => ?_) (fun h_75 => ?_)
            · refine pw_iconst hX (k := 0) rfl (by decide) dX4_isThere_86 (q := 87) rfl ?_
              refine pw_ireturn hX dX4_isThere_87 ⟨_, rfl, by first | exact bI_nar _ | decide | rfl⟩ ⟨congrArg (fun z => some (Value.int z)) ?_, ?_⟩
              · clear hX hB h7; first | (exfalso; omega) | (rw [show tThere S c G = false by unfold tThere; simp_all]; rfl) | (rw [show tThere S c G = true by unfold tThere; simp_all]; rfl)
              · rfl
            · refine pw_iload_n hX rfl dX4_isThere_78 (q := 79) rfl ?_
              refine pw_ifN_eq hX (by first | omega | exact bS0 hB | exact bSw hB (by omega) (by omega) (by omega) | exact bSe hB (by omega) (by omega) | exact bS1 hB | exact bS2 hB) (tgt := 86) dX4_isThere_79 (q := 82) rfl (by decide) (fun h_79 => ?_) (fun h_79 => ?_)
              · refine pw_iconst hX (k := 0) rfl (by decide) dX4_isThere_86 (q := 87) rfl ?_
                refine pw_ireturn hX dX4_isThere_87 ⟨_, rfl, by first | exact bI_nar _ | decide | rfl⟩ ⟨congrArg (fun z => some (Value.int z)) ?_, ?_⟩
                · clear hX hB h7; first | (exfalso; omega) | (rw [show tThere S c G = false by unfold tThere; simp_all]; rfl) | (rw [show tThere S c G = true by unfold tThere; simp_all]; rfl)
                · rfl
              · refine pw_iconst hX (k := 1) rfl (by decide) dX4_isThere_82 (q := 83) rfl ?_
                refine pw_goto hX (tgt := 87) dX4_isThere_83 (by decide) ?_
                refine pw_ireturn hX dX4_isThere_87 ⟨_, rfl, by first | exact bI_nar _ | decide | rfl⟩ ⟨congrArg (fun z => some (Value.int z)) ?_, ?_⟩
                · clear hX hB h7; first | (exfalso; omega) | (rw [show tThere S c G = false by unfold tThere; simp_all]; rfl) | (rw [show tThere S c G = true by unfold tThere; simp_all]; rfl)
                · rfl
          · refine pw_aload_n hX rfl dX4_isThere_56 (q := 57) rfl ?_
            refine pw_getMS hX 9 (by decide) fl_X4_26 rfl dX4_isThere_57 (q := 60) rfl ?_
            refine pw_iconst hX (k := 1) rfl (by decide) dX4_isThere_60 (q := 61) rfl ?_
            refine pw_ialdMS hX 6 (by decide) (show _ < 3 by omega) dX4_isThere_61 (q := 62) rfl ?_
            repeat first | rw [tV_7] | rw [tV_8] | rw [tV_x] | rw [tV_t] | rw [tV_g] | rw [tV_p7] | rw [tV_p8] | rw [tV_pg] | rw [upN_s]
            refine pw_csI1 hX dX4_isThere_62 (q := 65) rfl mi_X4_isTopic ml_X4_88 ⟨rfl, rfl, by decide, by decide⟩ rfl (Nat.le_of_ble_eq_true rfl) (c_X4_isTopic) ?_
            refine pw_ifB_eq hX (tgt := 72) dX4_isThere_65 (q := 68) rfl (by decide) (fun h_65 => ?_) (fun h_65 => ?_)
            · refine pw_iconst hX (k := 0) rfl (by decide) dX4_isThere_72 (q := 73) rfl ?_
              refine pw_istore_n hX (by decide) dX4_isThere_73 (q := 74) rfl ?_
              refine pw_iload_n hX rfl dX4_isThere_74 (q := 75) rfl ?_
              refine pw_ifN_eq hX (by first | omega | exact bS0 hB | exact bSw hB (by omega) (by omega) (by omega) | exact bSe hB (by omega) (by omega) | exact bS1 hB | exact bS2 hB) (tgt := 86) dX4_isThere_75 (q := 78) rfl (by decide) (fun h_75 => ?_) (fun h_75 => ?_)
              · refine pw_iconst hX (k := 0) rfl (by decide) dX4_isThere_86 (q := 87) rfl ?_
                refine pw_ireturn hX dX4_isThere_87 ⟨_, rfl, by first | exact bI_nar _ | decide | rfl⟩ ⟨congrArg (fun z => some (Value.int z)) ?_, ?_⟩
                · clear hX hB h7; first | (exfalso; omega) | (rw [show tThere S c G = false by unfold tThere; simp_all]; rfl) | (rw [show tThere S c G = true by unfold tThere; simp_all]; rfl)
                · rfl
              · refine pw_iload_n hX rfl dX4_isThere_78 (q := 79) rfl ?_
                refine pw_ifN_eq hX (by first | omega | exact bS0 hB | exact bSw hB (by omega) (by omega) (by omega) | exact bSe hB (by omega) (by omega) | exact bS1 hB | exact bS2 hB) (tgt := 86) dX4_isThere_79 (q := 82) rfl (by decide) (fun h_79 => ?_) (fun h_79 => ?_)
                · refine pw_iconst hX (k := 0) rfl (by decide) dX4_isThere_86 (q := 87) rfl ?_
                  refine pw_ireturn hX dX4_isThere_87 ⟨_, rfl, by first | exact bI_nar _ | decide | rfl⟩ ⟨congrArg (fun z => some (Value.int z)) ?_, ?_⟩
                  · clear hX hB h7; first | (exfalso; omega) | (rw [show tThere S c G = false by unfold tThere; simp_all]; rfl) | (rw [show tThere S c G = true by unfold tThere; simp_all]; rfl)
                  · rfl
                · refine pw_iconst hX (k := 1) rfl (by decide) dX4_isThere_82 (q := 83) rfl ?_
                  refine pw_goto hX (tgt := 87) dX4_isThere_83 (by decide) ?_
                  refine pw_ireturn hX dX4_isThere_87 ⟨_, rfl, by first | exact bI_nar _ | decide | rfl⟩ ⟨congrArg (fun z => some (Value.int z)) ?_, ?_⟩
                  · clear hX hB h7; first | (exfalso; omega) | (rw [show tThere S c G = false by unfold tThere; simp_all]; rfl) | (rw [show tThere S c G = true by unfold tThere; simp_all]; rfl)
                  · rfl
            · refine pw_iconst hX (k := 1) rfl (by decide) dX4_isThere_68 (q := 69) rfl ?_
              refine pw_goto hX (tgt := 73) dX4_isThere_69 (by decide) ?_
              refine pw_istore_n hX (by decide) dX4_isThere_73 (q := 74) rfl ?_
              refine pw_iload_n hX rfl dX4_isThere_74 (q := 75) rfl ?_
              refine pw_ifN_eq hX (by first | omega | exact bS0 hB | exact bSw hB (by omega) (by omega) (by omega) | exact bSe hB (by omega) (by omega) | exact bS1 hB | exact bS2 hB) (tgt := 86) dX4_isThere_75 (q := 78) rfl (by decide) (fun h_75 => ?_) (fun h_75 => ?_)
              · refine pw_iconst hX (k := 0) rfl (by decide) dX4_isThere_86 (q := 87) rfl ?_
                refine pw_ireturn hX dX4_isThere_87 ⟨_, rfl, by first | exact bI_nar _ | decide | rfl⟩ ⟨congrArg (fun z => some (Value.int z)) ?_, ?_⟩
                · clear hX hB h7; first | (exfalso; omega) | (rw [show tThere S c G = false by unfold tThere; simp_all]; rfl) | (rw [show tThere S c G = true by unfold tThere; simp_all]; rfl)
                · rfl
              · refine pw_iload_n hX rfl dX4_isThere_78 (q := 79) rfl ?_
                refine pw_ifN_eq hX (by first | omega | exact bS0 hB | exact bSw hB (by omega) (by omega) (by omega) | exact bSe hB (by omega) (by omega) | exact bS1 hB | exact bS2 hB) (tgt := 86) dX4_isThere_79 (q := 82) rfl (by decide) (fun h_79 => ?_) (fun h_79 => ?_)
                · refine pw_iconst hX (k := 0) rfl (by decide) dX4_isThere_86 (q := 87) rfl ?_
                  refine pw_ireturn hX dX4_isThere_87 ⟨_, rfl, by first | exact bI_nar _ | decide | rfl⟩ ⟨congrArg (fun z => some (Value.int z)) ?_, ?_⟩
                  · clear hX hB h7; first | (exfalso; omega) | (rw [show tThere S c G = false by unfold tThere; simp_all]; rfl) | (rw [show tThere S c G = true by unfold tThere; simp_all]; rfl)
                  · rfl
                · refine pw_iconst hX (k := 1) rfl (by decide) dX4_isThere_82 (q := 83) rfl ?_
                  refine pw_goto hX (tgt := 87) dX4_isThere_83 (by decide) ?_
                  refine pw_ireturn hX dX4_isThere_87 ⟨_, rfl, by first | exact bI_nar _ | decide | rfl⟩ ⟨congrArg (fun z => some (Value.int z)) ?_, ?_⟩
                  · clear hX hB h7; first | (exfalso; omega) | (rw [show tThere S c G = false by unfold tThere; simp_all]; rfl) | (rw [show tThere S c G = true by unfold tThere; simp_all]; rfl)
                  · rfl
      · refine pw_aload_n hX rfl dX4_isThere_31 (q := 32) rfl ?_
        refine pw_aload_n hX rfl dX4_isThere_32 (q := 33) rfl ?_
        refine pw_getMS hX 9 (by decide) fl_X4_26 rfl dX4_isThere_33 (q := 36) rfl ?_
        refine pw_iconst hX (k := 1) rfl (by decide) dX4_isThere_36 (q := 37) rfl ?_
        refine pw_ialdMS hX 6 (by decide) (show _ < 3 by omega) dX4_isThere_37 (q := 38) rfl ?_
        repeat first | rw [tV_7] | rw [tV_8] | rw [tV_x] | rw [tV_t] | rw [tV_g] | rw [tV_p7] | rw [tV_p8] | rw [tV_pg] | rw [upN_s]
        refine pw_cvI1 hX dX4_isThere_38 (q := 41) rfl mi_X4_isVillager ml_X4_53 rcM ⟨rfl, rfl, by decide, by decide⟩ rfl (Nat.le_of_ble_eq_true rfl) (c_X4_isVillager h7) ?_
        refine pw_goto hX (tgt := 73) dX4_isThere_41 (by decide) ?_
        refine pw_istore_n hX (by decide) dX4_isThere_73 (q := 74) rfl ?_
        refine pw_iload_n hX rfl dX4_isThere_74 (q := 75) rfl ?_
        refine pw_ifN_eq hX (by first | omega | exact bS0 hB | exact bSw hB (by omega) (by omega) (by omega) | exact bSe hB (by omega) (by omega) | exact bS1 hB | exact bS2 hB) (tgt := 86) dX4_isThere_75 (q := 78) rfl (by decide) (fun h_75 => ?_) (fun h_75 => ?_)
        · refine pw_iconst hX (k := 0) rfl (by decide) dX4_isThere_86 (q := 87) rfl ?_
          refine pw_ireturn hX dX4_isThere_87 ⟨_, rfl, by first | exact bI_nar _ | decide | rfl⟩ ⟨congrArg (fun z => some (Value.int z)) ?_, ?_⟩
          · clear hX hB h7; first | (exfalso; omega) | (rw [show tThere S c G = false by unfold tThere; simp_all]; rfl) | (rw [show tThere S c G = true by unfold tThere; simp_all]; rfl)
          · rfl
        · refine pw_iload_n hX rfl dX4_isThere_78 (q := 79) rfl ?_
          refine pw_ifB_eq hX (tgt := 86) dX4_isThere_79 (q := 82) rfl (by decide) (fun h_79 => ?_) (fun h_79 => ?_)
          · refine pw_iconst hX (k := 0) rfl (by decide) dX4_isThere_86 (q := 87) rfl ?_
            refine pw_ireturn hX dX4_isThere_87 ⟨_, rfl, by first | exact bI_nar _ | decide | rfl⟩ ⟨congrArg (fun z => some (Value.int z)) ?_, ?_⟩
            · clear hX hB h7; first | (exfalso; omega) | (rw [show tThere S c G = false by unfold tThere; simp_all]; rfl) | (rw [show tThere S c G = true by unfold tThere; simp_all]; rfl)
            · rfl
          · refine pw_iconst hX (k := 1) rfl (by decide) dX4_isThere_82 (q := 83) rfl ?_
            refine pw_goto hX (tgt := 87) dX4_isThere_83 (by decide) ?_
            refine pw_ireturn hX dX4_isThere_87 ⟨_, rfl, by first | exact bI_nar _ | decide | rfl⟩ ⟨congrArg (fun z => some (Value.int z)) ?_, ?_⟩
            · clear hX hB h7; first | (exfalso; omega) | (rw [show tThere S c G = false by unfold tThere; simp_all]; rfl) | (rw [show tThere S c G = true by unfold tThere; simp_all]; rfl)
            · rfl
    · refine pw_iconst hX (k := 1) rfl (by decide) dX4_isThere_19 (q := 20) rfl ?_
      refine pw_goto hX (tgt := 24) dX4_isThere_20 (by decide) ?_
      refine pw_istore_n hX (by decide) dX4_isThere_24 (q := 25) rfl ?_
      refine pw_iload_n hX rfl dX4_isThere_25 (q := 26) rfl ?_
      refine pw_bipush hX (k := 109) (by decide) dX4_isThere_26 (q := 28) rfl ?_
      refine pw_icmpN_ne hX (by first | omega | exact bS0 hB | exact bSw hB (by omega) (by omega) (by omega) | exact bSe hB (by omega) (by omega) | exact bS1 hB | exact bS2 hB) (by first | omega | exact bS0 hB | exact bSw hB (by omega) (by omega) (by omega) | exact bSe hB (by omega) (by omega) | exact bS1 hB | exact bS2 hB) (tgt := 44) dX4_isThere_28 (q := 31) rfl (by decide) (fun h_28 => ?_) (fun h_28 => ?_)
      · refine pw_iload_n hX rfl dX4_isThere_44 (q := 45) rfl ?_
        refine pw_bipush hX (k := 116) (by decide) dX4_isThere_45 (q := 47) rfl ?_
        refine pw_icmpN_eq hX (by first | omega | exact bS0 hB | exact bSw hB (by omega) (by omega) (by omega) | exact bSe hB (by omega) (by omega) | exact bS1 hB | exact bS2 hB) (by first | omega | exact bS0 hB | exact bSw hB (by omega) (by omega) (by omega) | exact bSe hB (by omega) (by omega) | exact bS1 hB | exact bS2 hB) (tgt := 56) dX4_isThere_47 (q := 50) rfl (by decide) (fun h_47 => ?_) (fun h_47 => ?_)
        · refine pw_aload_n hX rfl dX4_isThere_56 (q := 57) rfl ?_
          refine pw_getMS hX 9 (by decide) fl_X4_26 rfl dX4_isThere_57 (q := 60) rfl ?_
          refine pw_iconst hX (k := 1) rfl (by decide) dX4_isThere_60 (q := 61) rfl ?_
          refine pw_ialdMS hX 6 (by decide) (show _ < 3 by omega) dX4_isThere_61 (q := 62) rfl ?_
          repeat first | rw [tV_7] | rw [tV_8] | rw [tV_x] | rw [tV_t] | rw [tV_g] | rw [tV_p7] | rw [tV_p8] | rw [tV_pg] | rw [upN_s]
          refine pw_csI1 hX dX4_isThere_62 (q := 65) rfl mi_X4_isTopic ml_X4_88 ⟨rfl, rfl, by decide, by decide⟩ rfl (Nat.le_of_ble_eq_true rfl) (c_X4_isTopic) ?_
          refine pw_ifB_eq hX (tgt := 72) dX4_isThere_65 (q := 68) rfl (by decide) (fun h_65 => ?_) (fun h_65 => ?_)
          · refine pw_iconst hX (k := 0) rfl (by decide) dX4_isThere_72 (q := 73) rfl ?_
            refine pw_istore_n hX (by decide) dX4_isThere_73 (q := 74) rfl ?_
            refine pw_iload_n hX rfl dX4_isThere_74 (q := 75) rfl ?_
            refine pw_ifN_eq hX (by first | omega | exact bS0 hB | exact bSw hB (by omega) (by omega) (by omega) | exact bSe hB (by omega) (by omega) | exact bS1 hB | exact bS2 hB) (tgt := 86) dX4_isThere_75 (q := 78) rfl (by decide) (fun h_75 => ?_) (fun h_75 => ?_)
            · refine pw_iconst hX (k := 0) rfl (by decide) dX4_isThere_86 (q := 87) rfl ?_
              refine pw_ireturn hX dX4_isThere_87 ⟨_, rfl, by first | exact bI_nar _ | decide | rfl⟩ ⟨congrArg (fun z => some (Value.int z)) ?_, ?_⟩
              · clear hX hB h7; first | (exfalso; omega) | (rw [show tThere S c G = false by unfold tThere; simp_all]; rfl) | (rw [show tThere S c G = true by unfold tThere; simp_all]; rfl)
              · rfl
            · refine pw_iload_n hX rfl dX4_isThere_78 (q := 79) rfl ?_
              refine pw_ifN_eq hX (by first | omega | exact bS0 hB | exact bSw hB (by omega) (by omega) (by omega) | exact bSe hB (by omega) (by omega) | exact bS1 hB | exact bS2 hB) (tgt := 86) dX4_isThere_79 (q := 82) rfl (by decide) (fun h_79 => ?_) (fun h_79 => ?_)
              · refine pw_iconst hX (k := 0) rfl (by decide) dX4_isThere_86 (q := 87) rfl ?_
                refine pw_ireturn hX dX4_isThere_87 ⟨_, rfl, by first | exact bI_nar _ | decide | rfl⟩ ⟨congrArg (fun z => some (Value.int z)) ?_, ?_⟩
                · clear hX hB h7; first | (exfalso; omega) | (rw [show tThere S c G = false by unfold tThere; simp_all]; rfl) | (rw [show tThere S c G = true by unfold tThere; simp_all]; rfl)
                · rfl
              · refine pw_iconst hX (k := 1) rfl (by decide) dX4_isThere_82 (q := 83) rfl ?_
                refine pw_goto hX (tgt := 87) dX4_isThere_83 (by decide) ?_
                refine pw_ireturn hX dX4_isThere_87 ⟨_, rfl, by first | exact bI_nar _ | decide | rfl⟩ ⟨congrArg (fun z => some (Value.int z)) ?_, ?_⟩
                · clear hX hB h7; first | (exfalso; omega) | (rw [show tThere S c G = false by unfold tThere; simp_all]; rfl) | (rw [show tThere S c G = true by unfold tThere; simp_all]; rfl)
                · rfl
          · refine pw_iconst hX (k := 1) rfl (by decide) dX4_isThere_68 (q := 69) rfl ?_
            refine pw_goto hX (tgt := 73) dX4_isThere_69 (by decide) ?_
            refine pw_istore_n hX (by decide) dX4_isThere_73 (q := 74) rfl ?_
            refine pw_iload_n hX rfl dX4_isThere_74 (q := 75) rfl ?_
            refine pw_ifN_eq hX (by first | omega | exact bS0 hB | exact bSw hB (by omega) (by omega) (by omega) | exact bSe hB (by omega) (by omega) | exact bS1 hB | exact bS2 hB) (tgt := 86) dX4_isThere_75 (q := 78) rfl (by decide) (fun h_75 => ?_) (fun h_75 => ?_)
            · refine pw_iconst hX (k := 0) rfl (by decide) dX4_isThere_86 (q := 87) rfl ?_
              refine pw_ireturn hX dX4_isThere_87 ⟨_, rfl, by first | exact bI_nar _ | decide | rfl⟩ ⟨congrArg (fun z => some (Value.int z)) ?_, ?_⟩
              · clear hX hB h7; first | (exfalso; omega) | (rw [show tThere S c G = false by unfold tThere; simp_all]; rfl) | (rw [show tThere S c G = true by unfold tThere; simp_all]; rfl)
              · rfl
            · refine pw_iload_n hX rfl dX4_isThere_78 (q := 79) rfl ?_
              refine pw_ifN_eq hX (by first | omega | exact bS0 hB | exact bSw hB (by omega) (by omega) (by omega) | exact bSe hB (by omega) (by omega) | exact bS1 hB | exact bS2 hB) (tgt := 86) dX4_isThere_79 (q := 82) rfl (by decide) (fun h_79 => ?_) (fun h_79 => ?_)
              · refine pw_iconst hX (k := 0) rfl (by decide) dX4_isThere_86 (q := 87) rfl ?_
                refine pw_ireturn hX dX4_isThere_87 ⟨_, rfl, by first | exact bI_nar _ | decide | rfl⟩ ⟨congrArg (fun z => some (Value.int z)) ?_, ?_⟩
                · clear hX hB h7; first | (exfalso; omega) | (rw [show tThere S c G = false by unfold tThere; simp_all]; rfl) | (rw [show tThere S c G = true by unfold tThere; simp_all]; rfl)
                · rfl
              · refine pw_iconst hX (k := 1) rfl (by decide) dX4_isThere_82 (q := 83) rfl ?_
                refine pw_goto hX (tgt := 87) dX4_isThere_83 (by decide) ?_
                refine pw_ireturn hX dX4_isThere_87 ⟨_, rfl, by first | exact bI_nar _ | decide | rfl⟩ ⟨congrArg (fun z => some (Value.int z)) ?_, ?_⟩
                · clear hX hB h7; first | (exfalso; omega) | (rw [show tThere S c G = false by unfold tThere; simp_all]; rfl) | (rw [show tThere S c G = true by unfold tThere; simp_all]; rfl)
                · rfl
        · refine pw_iload_n hX rfl dX4_isThere_50 (q := 51) rfl ?_
          refine pw_bipush hX (k := 98) (by decide) dX4_isThere_51 (q := 53) rfl ?_
          refine pw_icmpN_ne hX (by first | omega | exact bS0 hB | exact bSw hB (by omega) (by omega) (by omega) | exact bSe hB (by omega) (by omega) | exact bS1 hB | exact bS2 hB) (by first | omega | exact bS0 hB | exact bSw hB (by omega) (by omega) (by omega) | exact bSe hB (by omega) (by omega) | exact bS1 hB | exact bS2 hB) (tgt := 68) dX4_isThere_53 (q := 56) rfl (by decide) (fun h_53 => ?_) (fun h_53 => ?_)
          · refine pw_iconst hX (k := 1) rfl (by decide) dX4_isThere_68 (q := 69) rfl ?_
            refine pw_goto hX (tgt := 73) dX4_isThere_69 (by decide) ?_
            refine pw_istore_n hX (by decide) dX4_isThere_73 (q := 74) rfl ?_
            refine pw_iload_n hX rfl dX4_isThere_74 (q := 75) rfl ?_
            refine pw_ifN_eq hX (by first | omega | exact bS0 hB | exact bSw hB (by omega) (by omega) (by omega) | exact bSe hB (by omega) (by omega) | exact bS1 hB | exact bS2 hB) (tgt := 86) dX4_isThere_75 (q := 78) rfl (by decide) (fun h_75 => ?_) (fun h_75 => ?_)
            · refine pw_iconst hX (k := 0) rfl (by decide) dX4_isThere_86 (q := 87) rfl ?_
              refine pw_ireturn hX dX4_isThere_87 ⟨_, rfl, by first | exact bI_nar _ | decide | rfl⟩ ⟨congrArg (fun z => some (Value.int z)) ?_, ?_⟩
              · clear hX hB h7; first | (exfalso; omega) | (rw [show tThere S c G = false by unfold tThere; simp_all]; rfl) | (rw [show tThere S c G = true by unfold tThere; simp_all]; rfl)
              · rfl
            · refine pw_iload_n hX rfl dX4_isThere_78 (q := 79) rfl ?_
              refine pw_ifN_eq hX (by first | omega | exact bS0 hB | exact bSw hB (by omega) (by omega) (by omega) | exact bSe hB (by omega) (by omega) | exact bS1 hB | exact bS2 hB) (tgt := 86) dX4_isThere_79 (q := 82) rfl (by decide) (fun h_79 => ?_) (fun h_79 => ?_)
              · refine pw_iconst hX (k := 0) rfl (by decide) dX4_isThere_86 (q := 87) rfl ?_
                refine pw_ireturn hX dX4_isThere_87 ⟨_, rfl, by first | exact bI_nar _ | decide | rfl⟩ ⟨congrArg (fun z => some (Value.int z)) ?_, ?_⟩
                · clear hX hB h7; first | (exfalso; omega) | (rw [show tThere S c G = false by unfold tThere; simp_all]; rfl) | (rw [show tThere S c G = true by unfold tThere; simp_all]; rfl)
                · rfl
              · refine pw_iconst hX (k := 1) rfl (by decide) dX4_isThere_82 (q := 83) rfl ?_
                refine pw_goto hX (tgt := 87) dX4_isThere_83 (by decide) ?_
                refine pw_ireturn hX dX4_isThere_87 ⟨_, rfl, by first | exact bI_nar _ | decide | rfl⟩ ⟨congrArg (fun z => some (Value.int z)) ?_, ?_⟩
                · clear hX hB h7; first | (exfalso; omega) | (rw [show tThere S c G = false by unfold tThere; simp_all]; rfl) | (rw [show tThere S c G = true by unfold tThere; simp_all]; rfl)
                · rfl
          · refine pw_aload_n hX rfl dX4_isThere_56 (q := 57) rfl ?_
            refine pw_getMS hX 9 (by decide) fl_X4_26 rfl dX4_isThere_57 (q := 60) rfl ?_
            refine pw_iconst hX (k := 1) rfl (by decide) dX4_isThere_60 (q := 61) rfl ?_
            refine pw_ialdMS hX 6 (by decide) (show _ < 3 by omega) dX4_isThere_61 (q := 62) rfl ?_
            repeat first | rw [tV_7] | rw [tV_8] | rw [tV_x] | rw [tV_t] | rw [tV_g] | rw [tV_p7] | rw [tV_p8] | rw [tV_pg] | rw [upN_s]
            refine pw_csI1 hX dX4_isThere_62 (q := 65) rfl mi_X4_isTopic ml_X4_88 ⟨rfl, rfl, by decide, by decide⟩ rfl (Nat.le_of_ble_eq_true rfl) (c_X4_isTopic) ?_
            refine pw_ifB_eq hX (tgt := 72) dX4_isThere_65 (q := 68) rfl (by decide) (fun h_65 => ?_) (fun h_65 => ?_)
            · refine pw_iconst hX (k := 0) rfl (by decide) dX4_isThere_72 (q := 73) rfl ?_
              refine pw_istore_n hX (by decide) dX4_isThere_73 (q := 74) rfl ?_
              refine pw_iload_n hX rfl dX4_isThere_74 (q := 75) rfl ?_
              refine pw_ifN_eq hX (by first | omega | exact bS0 hB | exact bSw hB (by omega) (by omega) (by omega) | exact bSe hB (by omega) (by omega) | exact bS1 hB | exact bS2 hB) (tgt := 86) dX4_isThere_75 (q := 78) rfl (by decide) (fun h_75 => ?_) (fun h_75 => ?_)
              · refine pw_iconst hX (k := 0) rfl (by decide) dX4_isThere_86 (q := 87) rfl ?_
                refine pw_ireturn hX dX4_isThere_87 ⟨_, rfl, by first | exact bI_nar _ | decide | rfl⟩ ⟨congrArg (fun z => some (Value.int z)) ?_, ?_⟩
                · clear hX hB h7; first | (exfalso; omega) | (rw [show tThere S c G = false by unfold tThere; simp_all]; rfl) | (rw [show tThere S c G = true by unfold tThere; simp_all]; rfl)
                · rfl
              · refine pw_iload_n hX rfl dX4_isThere_78 (q := 79) rfl ?_
                refine pw_ifN_eq hX (by first | omega | exact bS0 hB | exact bSw hB (by omega) (by omega) (by omega) | exact bSe hB (by omega) (by omega) | exact bS1 hB | exact bS2 hB) (tgt := 86) dX4_isThere_79 (q := 82) rfl (by decide) (fun h_79 => ?_) (fun h_79 => ?_)
                · refine pw_iconst hX (k := 0) rfl (by decide) dX4_isThere_86 (q := 87) rfl ?_
                  refine pw_ireturn hX dX4_isThere_87 ⟨_, rfl, by first | exact bI_nar _ | decide | rfl⟩ ⟨congrArg (fun z => some (Value.int z)) ?_, ?_⟩
                  · clear hX hB h7; first | (exfalso; omega) | (rw [show tThere S c G = false by unfold tThere; simp_all]; rfl) | (rw [show tThere S c G = true by unfold tThere; simp_all]; rfl)
                  · rfl
                · refine pw_iconst hX (k := 1) rfl (by decide) dX4_isThere_82 (q := 83) rfl ?_
                  refine pw_goto hX (tgt := 87) dX4_isThere_83 (by decide) ?_
                  refine pw_ireturn hX dX4_isThere_87 ⟨_, rfl, by first | exact bI_nar _ | decide | rfl⟩ ⟨congrArg (fun z => some (Value.int z)) ?_, ?_⟩
                  · clear hX hB h7; first | (exfalso; omega) | (rw [show tThere S c G = false by unfold tThere; simp_all]; rfl) | (rw [show tThere S c G = true by unfold tThere; simp_all]; rfl)
                  · rfl
            · refine pw_iconst hX (k := 1) rfl (by decide) dX4_isThere_68 (q := 69) rfl ?_
              refine pw_goto hX (tgt := 73) dX4_isThere_69 (by decide) ?_
              refine pw_istore_n hX (by decide) dX4_isThere_73 (q := 74) rfl ?_
              refine pw_iload_n hX rfl dX4_isThere_74 (q := 75) rfl ?_
              refine pw_ifN_eq hX (by first | omega | exact bS0 hB | exact bSw hB (by omega) (by omega) (by omega) | exact bSe hB (by omega) (by omega) | exact bS1 hB | exact bS2 hB) (tgt := 86) dX4_isThere_75 (q := 78) rfl (by decide) (fun h_75 => ?_) (fun h_75 => ?_)
              · refine pw_iconst hX (k := 0) rfl (by decide) dX4_isThere_86 (q := 87) rfl ?_
                refine pw_ireturn hX dX4_isThere_87 ⟨_, rfl, by first | exact bI_nar _ | decide | rfl⟩ ⟨congrArg (fun z => some (Value.int z)) ?_, ?_⟩
                · clear hX hB h7; first | (exfalso; omega) | (rw [show tThere S c G = false by unfold tThere; simp_all]; rfl) | (rw [show tThere S c G = true by unfold tThere; simp_all]; rfl)
                · rfl
              · refine pw_iload_n hX rfl dX4_isThere_78 (q := 79) rfl ?_
                refine pw_ifN_eq hX (by first | omega | exact bS0 hB | exact bSw hB (by omega) (by omega) (by omega) | exact bSe hB (by omega) (by omega) | exact bS1 hB | exact bS2 hB) (tgt := 86) dX4_isThere_79 (q := 82) rfl (by decide) (fun h_79 => ?_) (fun h_79 => ?_)
                · refine pw_iconst hX (k := 0) rfl (by decide) dX4_isThere_86 (q := 87) rfl ?_
                  refine pw_ireturn hX dX4_isThere_87 ⟨_, rfl, by first | exact bI_nar _ | decide | rfl⟩ ⟨congrArg (fun z => some (Value.int z)) ?_, ?_⟩
                  · clear hX hB h7; first | (exfalso; omega) | (rw [show tThere S c G = false by unfold tThere; simp_all]; rfl) | (rw [show tThere S c G = true by unfold tThere; simp_all]; rfl)
                  · rfl
                · refine pw_iconst hX (k := 1) rfl (by decide) dX4_isThere_82 (q := 83) rfl ?_
                  refine pw_goto hX (tgt := 87) dX4_isThere_83 (by decide) ?_
                  refine pw_ireturn hX dX4_isThere_87 ⟨_, rfl, by first | exact bI_nar _ | decide | rfl⟩ ⟨congrArg (fun z => some (Value.int z)) ?_, ?_⟩
                  · clear hX hB h7; first | (exfalso; omega) | (rw [show tThere S c G = false by unfold tThere; simp_all]; rfl) | (rw [show tThere S c G = true by unfold tThere; simp_all]; rfl)
                  · rfl
      · refine pw_aload_n hX rfl dX4_isThere_31 (q := 32) rfl ?_
        refine pw_aload_n hX rfl dX4_isThere_32 (q := 33) rfl ?_
        refine pw_getMS hX 9 (by decide) fl_X4_26 rfl dX4_isThere_33 (q := 36) rfl ?_
        refine pw_iconst hX (k := 1) rfl (by decide) dX4_isThere_36 (q := 37) rfl ?_
        refine pw_ialdMS hX 6 (by decide) (show _ < 3 by omega) dX4_isThere_37 (q := 38) rfl ?_
        repeat first | rw [tV_7] | rw [tV_8] | rw [tV_x] | rw [tV_t] | rw [tV_g] | rw [tV_p7] | rw [tV_p8] | rw [tV_pg] | rw [upN_s]
        refine pw_cvI1 hX dX4_isThere_38 (q := 41) rfl mi_X4_isVillager ml_X4_53 rcM ⟨rfl, rfl, by decide, by decide⟩ rfl (Nat.le_of_ble_eq_true rfl) (c_X4_isVillager h7) ?_
        refine pw_goto hX (tgt := 73) dX4_isThere_41 (by decide) ?_
        refine pw_istore_n hX (by decide) dX4_isThere_73 (q := 74) rfl ?_
        refine pw_iload_n hX rfl dX4_isThere_74 (q := 75) rfl ?_
        refine pw_ifN_eq hX (by first | omega | exact bS0 hB | exact bSw hB (by omega) (by omega) (by omega) | exact bSe hB (by omega) (by omega) | exact bS1 hB | exact bS2 hB) (tgt := 86) dX4_isThere_75 (q := 78) rfl (by decide) (fun h_75 => ?_) (fun h_75 => ?_)
        · refine pw_iconst hX (k := 0) rfl (by decide) dX4_isThere_86 (q := 87) rfl ?_
          refine pw_ireturn hX dX4_isThere_87 ⟨_, rfl, by first | exact bI_nar _ | decide | rfl⟩ ⟨congrArg (fun z => some (Value.int z)) ?_, ?_⟩
          · clear hX hB h7; first | (exfalso; omega) | (rw [show tThere S c G = false by unfold tThere; simp_all]; rfl) | (rw [show tThere S c G = true by unfold tThere; simp_all]; rfl)
          · rfl
        · refine pw_iload_n hX rfl dX4_isThere_78 (q := 79) rfl ?_
          refine pw_ifB_eq hX (tgt := 86) dX4_isThere_79 (q := 82) rfl (by decide) (fun h_79 => ?_) (fun h_79 => ?_)
          · refine pw_iconst hX (k := 0) rfl (by decide) dX4_isThere_86 (q := 87) rfl ?_
            refine pw_ireturn hX dX4_isThere_87 ⟨_, rfl, by first | exact bI_nar _ | decide | rfl⟩ ⟨congrArg (fun z => some (Value.int z)) ?_, ?_⟩
            · clear hX hB h7; first | (exfalso; omega) | (rw [show tThere S c G = false by unfold tThere; simp_all]; rfl) | (rw [show tThere S c G = true by unfold tThere; simp_all]; rfl)
            · rfl
          · refine pw_iconst hX (k := 1) rfl (by decide) dX4_isThere_82 (q := 83) rfl ?_
            refine pw_goto hX (tgt := 87) dX4_isThere_83 (by decide) ?_
            refine pw_ireturn hX dX4_isThere_87 ⟨_, rfl, by first | exact bI_nar _ | decide | rfl⟩ ⟨congrArg (fun z => some (Value.int z)) ?_, ?_⟩
            · clear hX hB h7; first | (exfalso; omega) | (rw [show tThere S c G = false by unfold tThere; simp_all]; rfl) | (rw [show tThere S c G = true by unfold tThere; simp_all]; rfl)
            · rfl
