def oW (w : WD) (O : Nat → Nat → Nat) : WD := wO w 7 O
theorem oW_7 (w : WD) (O : Nat → Nat → Nat) : (oW w O).1 7 = O := wO_s w 7 O
theorem oW_A (w : WD) (O : Nat → Nat → Nat) (k : Nat) (f : Nat → Nat) : wA (oW w O) 7 k f = oW w (vA O k f) := wA_wO w 7 k O f
theorem oW_V (w : WD) {o : Nat} (O V : Nat → Nat → Nat) (h : o < 7) : oW (wO w o V) O = wO (oW w O) o V := wO_comm w V O (by omega)
theorem vA_vU (O : Nat → Nat → Nat) (k i x : Nat) : vA O k (upN (O k) i x) = vU O k i x := rfl
def kApp (O : Nat → Nat → Nat) (c : Nat) : Nat → Nat → Nat := if O 0 1 < 60 then vU (vU O 1 (O 0 1) c) 0 1 (O 0 1 + 1) else O
theorem swN (c : Nat) : Op.lookupswitch.offset [((98 : Int), (61 : Int)), (109, 61), (110, 63), (115, 63), (116, 59), (119, 63)] 65 (c : Int) = if c = 98 then 61 else if c = 109 then 61 else if c = 110 then 63 else if c = 115 then 63 else if c = 116 then 59 else if c = 119 then 63 else 65 := by
  simp only [Op.lookupswitch.offset_cons, Op.lookupswitch.offset_nil]
  have e : ∀ n : Nat, ((n : Int) = (c : Int)) = (c = n) := fun n => propext ⟨fun h => by omega, fun h => by omega⟩
  rw [show (98 : Int) = ((98 : Nat) : Int) from rfl, show (109 : Int) = ((109 : Nat) : Int) from rfl, show (110 : Int) = ((110 : Nat) : Int) from rfl, show (115 : Int) = ((115 : Nat) : Int) from rfl, show (116 : Int) = ((116 : Nat) : Int) from rfl, show (119 : Int) = ((119 : Nat) : Int) from rfl]
  simp only [e]
theorem swE (c : Nat) : Op.lookupswitch.offset [((98 : Int), (51 : Int)), (109, 82), (115, 114), (116, 51), (119, 114)] 125 (c : Int) = if c = 98 then 51 else if c = 109 then 82 else if c = 115 then 114 else if c = 116 then 51 else if c = 119 then 114 else 125 := by
  simp only [Op.lookupswitch.offset_cons, Op.lookupswitch.offset_nil]
  have e : ∀ n : Nat, ((n : Int) = (c : Int)) = (c = n) := fun n => propext ⟨fun h => by omega, fun h => by omega⟩
  rw [show (98 : Int) = ((98 : Nat) : Int) from rfl, show (109 : Int) = ((109 : Nat) : Int) from rfl, show (115 : Int) = ((115 : Nat) : Int) from rfl, show (116 : Int) = ((116 : Nat) : Int) from rfl, show (119 : Int) = ((119 : Nat) : Int) from rfl]
  simp only [e]
/-- a reading of numbers under way: still well, how many, the one under way, its digits, the numbers -/
abbrev RN : Type := Bool × Nat × Nat × Nat × (Nat → Nat)
def rSt (T : Nat → Nat) (n e i : Nat) (x : RN) : RN :=
  if 48 ≤ T i ∧ T i ≤ 57 then (decide (x.2.2.2.1 + 1 ≤ 2), x.2.1, x.2.2.1 * 10 + (T i - 48), x.2.2.2.1 + 1, x.2.2.2.2)
  else if (i = e ∨ T i = 44) ∧ x.2.2.2.1 ≠ 0 ∧ x.2.1 < n then (true, x.2.1 + 1, 0, 0, upN x.2.2.2.2 x.2.1 x.2.2.1)
  else (false, x.2)
def rN (T : Nat → Nat) (n s e : Nat) (N : Nat → Nat) : Nat → RN
  | 0 => (true, 0, 0, 0, N)
  | k + 1 => if (rN T n s e N k).1 = true then rSt T n e (s + 1 + k) (rN T n s e N k) else rN T n s e N k
theorem rN_s (T : Nat → Nat) (n s e : Nat) (N : Nat → Nat) (k : Nat) : rN T n s e N (k + 1) = if (rN T n s e N k).1 = true then rSt T n e (s + 1 + k) (rN T n s e N k) else rN T n s e N k := rfl
theorem rN_f {T : Nat → Nat} {n s e : Nat} {N : Nat → Nat} {k : Nat} (h : (rN T n s e N k).1 = false) : ∀ d, rN T n s e N (k + d) = rN T n s e N k
  | 0 => rfl
  | d + 1 => by rw [← Nat.add_assoc, rN_s, rN_f h d, if_neg (by rw [h]; decide)]
def rAll (T : Nat → Nat) (s e : Nat) (N : Nat → Nat) : RN := rN T (tNums (T s)) s e N (e - s)
def rOk (T : Nat → Nat) (s e : Nat) (N : Nat → Nat) : Bool := (rAll T s e N).1 && decide (0 < tNums (T s) ∧ (rAll T s e N).2.1 = tNums (T s))
theorem rN_b (T : Nat → Nat) (n s e : Nat) (N : Nat → Nat) (hn : n ≤ 3) : ∀ k, (rN T n s e N k).1 = true → (rN T n s e N k).2.1 ≤ n ∧ (rN T n s e N k).2.2.2.1 ≤ 2 ∧ (rN T n s e N k).2.2.1 < 10 ^ (rN T n s e N k).2.2.2.1
  | 0, _ => ⟨Nat.zero_le _, Nat.zero_le _, (show 0 < 10 ^ 0 by decide)⟩
  | k + 1, h => by
    rw [rN_s] at h ⊢
    by_cases h1 : (rN T n s e N k).1 = true
    · rw [if_pos h1] at h ⊢
      obtain ⟨a1, a2, a3⟩ := rN_b T n s e N hn k h1
      unfold rSt at h ⊢
      split at h
      · rename_i hd
        rw [if_pos hd]
        have h3 := of_decide_eq_true h
        refine ⟨a1, h3, ?_⟩
        dsimp only
        rw [Nat.pow_succ]
        omega
      · rename_i hd
        rw [if_neg hd]
        split at h
        · rename_i hs
          rw [if_pos hs]
          exact ⟨by dsimp only; omega, by dsimp only; omega, by dsimp only; decide⟩
        · cases h
    · rw [if_neg h1] at h
      exact absurd h h1
def kThere (V : Nat → Nat → Nat) (c : Nat) (N : Nat → Nat) : Bool := if c = 98 ∨ c = 116 then hasN (V 0 0) (nI (N 0)) && hasN 12 (nI (N 1)) else if c = 109 then hasN (V 0 0) (nI (N 0)) && hasN (V 0 0) (nI (N 1)) else if c = 115 ∨ c = 119 then hasN (V 0 0) (nI (N 0)) else true
def kDoes (V : Nat → Nat → Nat) (c : Nat) (G : Nat → Nat) : (Nat → Nat → Nat) × Int32 := if c = 98 then kMT V (nI (G 0)) (nI (G 1)) else if c = 109 then kMeet V (nI (G 0)) (nI (G 1)) else if c = 115 then kSl V (nI (G 0)) else if c = 116 then kMR V (nI (G 0)) (nI (G 1)) (nI (G 2)) (nI 0) else if c = 119 then kWk V (nI (G 0)) else kTick V (nI (G 0))
theorem kDoes_98 (S : Nat → Nat → Nat) (G : Nat → Nat) : kDoes S 98 G = kMT S (nI (G 0)) (nI (G 1)) := if_pos rfl
theorem kDoes_109 (S : Nat → Nat → Nat) (G : Nat → Nat) : kDoes S 109 G = kMeet S (nI (G 0)) (nI (G 1)) := by unfold kDoes; rw [if_neg (by decide), if_pos rfl]
theorem kDoes_115 (S : Nat → Nat → Nat) (G : Nat → Nat) : kDoes S 115 G = kSl S (nI (G 0)) := by unfold kDoes; rw [if_neg (by decide), if_neg (by decide), if_pos rfl]
theorem kDoes_116 (S : Nat → Nat → Nat) (G : Nat → Nat) : kDoes S 116 G = kMR S (nI (G 0)) (nI (G 1)) (nI (G 2)) (nI 0) := by unfold kDoes; rw [if_neg (by decide), if_neg (by decide), if_neg (by decide), if_pos rfl]
theorem kDoes_119 (S : Nat → Nat → Nat) (G : Nat → Nat) : kDoes S 119 G = kWk S (nI (G 0)) := by unfold kDoes; rw [if_neg (by decide), if_neg (by decide), if_neg (by decide), if_neg (by decide), if_pos rfl]
theorem kDoes_d (S : Nat → Nat → Nat) {c : Nat} (G : Nat → Nat) (h : c ≠ 98 ∧ c ≠ 109 ∧ c ≠ 115 ∧ c ≠ 116 ∧ c ≠ 119) : kDoes S c G = kTick S (nI (G 0)) := by unfold kDoes; rw [if_neg h.1, if_neg h.2.1, if_neg h.2.2.1, if_neg h.2.2.2.1, if_neg h.2.2.2.2]
abbrev rm_X1_append : Room := { frames := 0, cells := 0, slots := 0, locals := 0 }
set_option maxHeartbeats 800000 in
set_option maxRecDepth 20000 in
theorem c_X1_append {l : Launch} {g : Geo} {w : WD} {O : Nat → Nat → Nat} {c : Nat} (h1 : O 0 1 ≤ 60) (hc : c < 65536) : CtI l g yX1_append cX1_append 2 (some .boolean) rm_X1_append [.ref (g_ad g 7 0), .int (nI c)] (oW w O) (bI (decide (O 0 1 < 60))) (oW w (kApp O c)) := by
  refine ct_of mi_X1_append.2.2.2.2.2 ⟨rfl, rfl⟩ (List.forall_mem_cons.mpr ⟨rfl, List.forall_mem_cons.mpr ⟨rfl, fun _ h => absurd h List.not_mem_nil⟩⟩) (Nat.le_of_ble_eq_true rfl) (fun P hX => ?_)
  replace hX : Gd l g RX1 cX1_append rm_X1_append 2 (some .boolean) _ _ P := hX
  show P (oW w O) 0 [some (.ref (g_ad g 7 0)), some (.int (nI c))] []
  refine pw_aload_n hX rfl dX1_append_0 (q := 1) rfl ?_
  refine pw_getO hX 1 (by decide) fl_X1_15 rfl dX1_append_1 (q := 4) rfl ?_
  repeat first | rw [oW_7] | rw [oW_A] | rw [vA_vU]
  refine pw_bipush hX (k := 60) (by decide) dX1_append_4 (q := 6) rfl ?_
  refine pw_icmpN_lt hX (by omega) (by omega) (tgt := 11) dX1_append_6 (q := 9) rfl (by decide) (fun h_6 => ?_) (fun h_6 => ?_)
  · refine pw_aload_n hX rfl dX1_append_11 (q := 12) rfl ?_
    refine pw_getO hX 0 (by decide) fl_X1_9 rfl dX1_append_12 (q := 15) rfl ?_
    refine pw_aload_n hX rfl dX1_append_15 (q := 16) rfl ?_
    refine pw_getO hX 1 (by decide) fl_X1_15 rfl dX1_append_16 (q := 19) rfl ?_
    repeat first | rw [oW_7] | rw [oW_A] | rw [vA_vU]
    refine pw_iload_n hX rfl dX1_append_19 (q := 20) rfl ?_
    refine pw_castG hX (by omega) (by omega) dX1_append_20 (q := 21) rfl ?_
    repeat first | rw [oW_7] | rw [oW_A] | rw [vA_vU]
    refine pw_aload_n hX rfl dX1_append_21 (q := 22) rfl ?_
    refine pw_dup hX rfl dX1_append_22 (q := 23) rfl ?_
    refine pw_getO hX 1 (by decide) fl_X1_15 rfl dX1_append_23 (q := 26) rfl ?_
    repeat first | rw [oW_7] | rw [oW_A] | rw [vA_vU]
    refine pw_iconst hX (k := 1) rfl (by decide) dX1_append_26 (q := 27) rfl ?_
    refine pw_iaddN hX dX1_append_27 (q := 28) rfl ?_
    refine pw_putO hX 1 (by decide) fl_X1_15 dX1_append_28 (q := 31) rfl ?_
    repeat first | rw [oW_7] | rw [oW_A] | rw [vA_vU]
    refine pw_iconst hX (k := 1) rfl (by decide) dX1_append_31 (q := 32) rfl ?_
    refine pw_ireturn hX dX1_append_32 ⟨_, rfl, by first | exact bI_nar _ | decide | rfl⟩ ⟨congrArg (fun z => some (Value.int z)) ?_, ?_⟩
    · first | (rw [decide_eq_false (by omega)]; rfl) | (rw [decide_eq_true (by omega)]; rfl)
    · rw [kApp, if_pos h_6]; rfl
  · refine pw_iconst hX (k := 0) rfl (by decide) dX1_append_9 (q := 10) rfl ?_
    refine pw_ireturn hX dX1_append_10 ⟨_, rfl, by first | exact bI_nar _ | decide | rfl⟩ ⟨congrArg (fun z => some (Value.int z)) ?_, ?_⟩
    · first | (rw [decide_eq_false (by omega)]; rfl) | (rw [decide_eq_true (by omega)]; rfl)
    · rw [kApp, if_neg (by omega)]
abbrev rm_X1_numbersOf : Room := { frames := 0, cells := 0, slots := 0, locals := 0 }
set_option maxHeartbeats 800000 in
set_option maxRecDepth 20000 in
theorem c_X1_numbersOf {l : Launch} {g : Geo} {w : WD} {c : Nat} (hc : c < 2 ^ 31) : CtI l g yX1_numbersOf cX1_numbersOf 1 (some .int) rm_X1_numbersOf [.int (nI c)] (w) (nI (tNums c)) (w) := by
  refine ct_of mi_X1_numbersOf.2.2.2.2 ⟨rfl, rfl⟩ (List.forall_mem_cons.mpr ⟨rfl, fun _ h => absurd h List.not_mem_nil⟩) (Nat.le_of_ble_eq_true rfl) (fun P hX => ?_)
  replace hX : Gd l g RX1 cX1_numbersOf rm_X1_numbersOf 1 (some .int) _ _ P := hX
  show P (w) 0 [some (.int (nI c))] []
  refine pw_iload_n hX rfl dX1_numbersOf_0 (q := 1) rfl ?_
  rcases (show c = 98 ∨ c = 109 ∨ c = 110 ∨ c = 115 ∨ c = 116 ∨ c = 119 ∨ (c ≠ 98 ∧ c ≠ 109 ∧ c ≠ 110 ∧ c ≠ 115 ∧ c ≠ 116 ∧ c ≠ 119) by omega) with rfl | rfl | rfl | rfl | rfl | rfl | hd
  · skip
    · refine pw_lookup hX (off := 61) (tgt := 62) dX1_numbersOf_1 (by decide) (by rw [nI_toInt hc]; exact (swN _).trans (by decide)) (by decide) ?_
      refine pw_iconst hX (k := 2) rfl (by decide) dX1_numbersOf_62 (q := 63) rfl ?_
      refine pw_ireturn hX dX1_numbersOf_63 ⟨_, rfl, rfl⟩ ⟨congrArg (fun z => some (Value.int z)) ?_, ?_⟩
      · rfl
      · rfl
  · skip
    · refine pw_lookup hX (off := 61) (tgt := 62) dX1_numbersOf_1 (by decide) (by rw [nI_toInt hc]; exact (swN _).trans (by decide)) (by decide) ?_
      refine pw_iconst hX (k := 2) rfl (by decide) dX1_numbersOf_62 (q := 63) rfl ?_
      refine pw_ireturn hX dX1_numbersOf_63 ⟨_, rfl, rfl⟩ ⟨congrArg (fun z => some (Value.int z)) ?_, ?_⟩
      · rfl
      · rfl
  · skip
    · refine pw_lookup hX (off := 63) (tgt := 64) dX1_numbersOf_1 (by decide) (by rw [nI_toInt hc]; exact (swN _).trans (by decide)) (by decide) ?_
      refine pw_iconst hX (k := 1) rfl (by decide) dX1_numbersOf_64 (q := 65) rfl ?_
      refine pw_ireturn hX dX1_numbersOf_65 ⟨_, rfl, rfl⟩ ⟨congrArg (fun z => some (Value.int z)) ?_, ?_⟩
      · rfl
      · rfl
  · skip
    · refine pw_lookup hX (off := 63) (tgt := 64) dX1_numbersOf_1 (by decide) (by rw [nI_toInt hc]; exact (swN _).trans (by decide)) (by decide) ?_
      refine pw_iconst hX (k := 1) rfl (by decide) dX1_numbersOf_64 (q := 65) rfl ?_
      refine pw_ireturn hX dX1_numbersOf_65 ⟨_, rfl, rfl⟩ ⟨congrArg (fun z => some (Value.int z)) ?_, ?_⟩
      · rfl
      · rfl
  · skip
    · refine pw_lookup hX (off := 59) (tgt := 60) dX1_numbersOf_1 (by decide) (by rw [nI_toInt hc]; exact (swN _).trans (by decide)) (by decide) ?_
      refine pw_iconst hX (k := 3) rfl (by decide) dX1_numbersOf_60 (q := 61) rfl ?_
      refine pw_ireturn hX dX1_numbersOf_61 ⟨_, rfl, rfl⟩ ⟨congrArg (fun z => some (Value.int z)) ?_, ?_⟩
      · rfl
      · rfl
  · skip
    · refine pw_lookup hX (off := 63) (tgt := 64) dX1_numbersOf_1 (by decide) (by rw [nI_toInt hc]; exact (swN _).trans (by decide)) (by decide) ?_
      refine pw_iconst hX (k := 1) rfl (by decide) dX1_numbersOf_64 (q := 65) rfl ?_
      refine pw_ireturn hX dX1_numbersOf_65 ⟨_, rfl, rfl⟩ ⟨congrArg (fun z => some (Value.int z)) ?_, ?_⟩
      · rfl
      · rfl
  · skip
    · refine pw_lookup hX (off := 65) (tgt := 66) dX1_numbersOf_1 (by decide) (by rw [nI_toInt hc]; exact (swN _).trans (by rw [if_neg hd.1, if_neg hd.2.1, if_neg hd.2.2.1, if_neg hd.2.2.2.1, if_neg hd.2.2.2.2.1, if_neg hd.2.2.2.2.2])) (by decide) ?_
      refine pw_iconst hX (k := 0) rfl (by decide) dX1_numbersOf_66 (q := 67) rfl ?_
      refine pw_ireturn hX dX1_numbersOf_67 ⟨_, rfl, rfl⟩ ⟨congrArg (fun z => some (Value.int z)) ?_, ?_⟩
      · rw [show tNums c = 0 by unfold tNums; rw [if_neg (by omega), if_neg (by omega), if_neg (by omega)]]
      · rfl
theorem vA2_1 (O : Nat → Nat → Nat) (f : Nat → Nat) : vA O 2 f 1 = O 1 := rfl
theorem vA2_2 (O : Nat → Nat → Nat) (f : Nat → Nat) : vA O 2 f 2 = f := rfl
abbrev rm_X1_readNumbers : Room := { frames := 1, cells := 0, slots := 0, locals := 20 }
set_option maxHeartbeats 800000 in
set_option maxRecDepth 20000 in
theorem c_X1_readNumbers {l : Launch} {g : Geo} {w : WD} {O : Nat → Nat → Nat} {s e : Nat} (hse : s ≤ e) (he : e < 60) (hT : ∀ j, j < 60 → O 1 j < 65536) : CtI l g yX1_readNumbers cX1_readNumbers 10 (some .boolean) rm_X1_readNumbers [.ref (g_ad g 7 0), .int (nI s), .int (nI e)] (oW w O) (bI (rOk (O 1) s e (O 2))) (oW w (vA O 2 (rAll (O 1) s e (O 2)).2.2.2.2)) := by
  refine ct_of mi_X1_readNumbers.2.2.2.2.2 ⟨rfl, rfl⟩ (List.forall_mem_cons.mpr ⟨rfl, List.forall_mem_cons.mpr ⟨rfl, List.forall_mem_cons.mpr ⟨rfl, fun _ h => absurd h List.not_mem_nil⟩⟩⟩) (Nat.le_of_ble_eq_true rfl) (fun P hX => ?_)
  replace hX : Gd l g RX1 cX1_readNumbers rm_X1_readNumbers 10 (some .boolean) _ _ P := hX
  show P (oW w O) 0 [some (.ref (g_ad g 7 0)), some (.int (nI s)), some (.int (nI e)), none, none, none, none, none, none, none] []
  have hn3 := tNums_le (O 1 s)
  refine pw_aload_n hX rfl dX1_readNumbers_0 (q := 1) rfl ?_
  refine pw_getO hX 0 (by decide) fl_X1_9 rfl dX1_readNumbers_1 (q := 4) rfl ?_
  refine pw_iload_n hX rfl dX1_readNumbers_4 (q := 5) rfl ?_
  refine pw_caldG hX (by omega) dX1_readNumbers_5 (q := 6) rfl ?_
  repeat first | rw [oW_7] | rw [oW_A] | rw [vA_vA] | rw [vA2_1] | rw [vA2_2]
  refine pw_csI1 hX dX1_readNumbers_6 (q := 9) rfl mi_X1_numbersOf ml_X1_52 ⟨rfl, rfl, by decide, by decide⟩ rfl (Nat.le_of_ble_eq_true rfl) (c_X1_numbersOf (by have h9 := hT s (by omega); omega)) ?_
  refine pw_istore_n hX (by decide) dX1_readNumbers_9 (q := 10) rfl ?_
  refine pw_iconst hX (k := 0) rfl (by decide) dX1_readNumbers_10 (q := 11) rfl ?_
  refine pw_istore hX (by decide) dX1_readNumbers_11 (q := 13) rfl ?_
  refine pw_iconst hX (k := 0) rfl (by decide) dX1_readNumbers_13 (q := 14) rfl ?_
  refine pw_istore hX (by decide) dX1_readNumbers_14 (q := 16) rfl ?_
  refine pw_iconst hX (k := 0) rfl (by decide) dX1_readNumbers_16 (q := 17) rfl ?_
  refine pw_istore hX (by decide) dX1_readNumbers_17 (q := 19) rfl ?_
  refine pw_iload_n hX rfl dX1_readNumbers_19 (q := 20) rfl ?_
  refine pw_iconst hX (k := 1) rfl (by decide) dX1_readNumbers_20 (q := 21) rfl ?_
  refine pw_iaddN hX dX1_readNumbers_21 (q := 22) rfl ?_
  refine pw_istore hX (by decide) dX1_readNumbers_22 (q := 24) rfl ?_
  suffices L : ∀ k, k ≤ e - s → (rN (O 1) (tNums (O 1 s)) s e (O 2) k).1 = true → P (oW w (vA O 2 (rN (O 1) (tNums (O 1 s)) s e (O 2) k).2.2.2.2)) 24 [some (.ref (g_ad g 7 0)), some (.int (nI s)), some (.int (nI e)), some (.int (nI (tNums (O 1 s)))), some (.int (nI (rN (O 1) (tNums (O 1 s)) s e (O 2) k).2.1)), some (.int (nI (rN (O 1) (tNums (O 1 s)) s e (O 2) k).2.2.1)), some (.int (nI (rN (O 1) (tNums (O 1 s)) s e (O 2) k).2.2.2.1)), some (.int (nI (s + 1 + k))), none, none] [] by have h9 := L 0 (Nat.zero_le _) rfl; rw [show (rN (O 1) (tNums (O 1 s)) s e (O 2) 0).2.2.2.2 = O 2 from rfl, vA_id] at h9; exact h9
  refine loopUp (fun k hk ih => ?_)
  intro hT2
  obtain ⟨hb1, hb2, hb3⟩ := rN_b (O 1) (tNums (O 1 s)) s e (O 2) hn3 k hT2
  have hb4 : (rN (O 1) (tNums (O 1 s)) s e (O 2) k).2.2.1 < 100 := Nat.lt_of_lt_of_le hb3 (Nat.pow_le_pow_right (by decide) hb2)
  refine pw_iload hX rfl dX1_readNumbers_24 (q := 26) rfl ?_
  refine pw_iload_n hX rfl dX1_readNumbers_26 (q := 27) rfl ?_
  refine pw_icmpN_gt hX (by first | omega | (have h9 := hT _ (show s + 1 + k < 60 by omega); omega)) (by first | omega | (have h9 := hT _ (show s + 1 + k < 60 by omega); omega)) (tgt := 139) dX1_readNumbers_27 (q := 30) rfl (by decide) (fun h_27 => ?_) (fun h_27 => ?_)
  · have e2 : rAll (O 1) s e (O 2) = (rN (O 1) (tNums (O 1 s)) s e (O 2) k) := by rw [rAll, show e - s = k by omega]
    refine pw_iload_n hX rfl dX1_readNumbers_139 (q := 140) rfl ?_
    refine pw_ifN_le hX (by first | omega | (have h9 := hT _ (show s + 1 + k < 60 by omega); omega)) (tgt := 153) dX1_readNumbers_140 (q := 143) rfl (by decide) (fun h_140 => ?_) (fun h_140 => ?_)
    · refine pw_iconst hX (k := 0) rfl (by decide) dX1_readNumbers_153 (q := 154) rfl ?_
      refine pw_ireturn hX dX1_readNumbers_154 ⟨_, rfl, by first | exact bI_nar _ | decide | rfl⟩ ⟨congrArg (fun z => some (Value.int z)) ?_, ?_⟩
      · rw [rOk, e2, hT2]; first | (rw [decide_eq_true (by omega)]; rfl) | (rw [decide_eq_false (by omega)]; rfl)
      · rw [e2]
    · refine pw_iload hX rfl dX1_readNumbers_143 (q := 145) rfl ?_
      refine pw_iload_n hX rfl dX1_readNumbers_145 (q := 146) rfl ?_
      refine pw_icmpN_ne hX (by first | omega | (have h9 := hT _ (show s + 1 + k < 60 by omega); omega)) (by first | omega | (have h9 := hT _ (show s + 1 + k < 60 by omega); omega)) (tgt := 153) dX1_readNumbers_146 (q := 149) rfl (by decide) (fun h_146 => ?_) (fun h_146 => ?_)
      · refine pw_iconst hX (k := 0) rfl (by decide) dX1_readNumbers_153 (q := 154) rfl ?_
        refine pw_ireturn hX dX1_readNumbers_154 ⟨_, rfl, by first | exact bI_nar _ | decide | rfl⟩ ⟨congrArg (fun z => some (Value.int z)) ?_, ?_⟩
        · rw [rOk, e2, hT2]; first | (rw [decide_eq_true (by omega)]; rfl) | (rw [decide_eq_false (by omega)]; rfl)
        · rw [e2]
      · refine pw_iconst hX (k := 1) rfl (by decide) dX1_readNumbers_149 (q := 150) rfl ?_
        refine pw_goto hX (tgt := 154) dX1_readNumbers_150 (by decide) ?_
        refine pw_ireturn hX dX1_readNumbers_154 ⟨_, rfl, by first | exact bI_nar _ | decide | rfl⟩ ⟨congrArg (fun z => some (Value.int z)) ?_, ?_⟩
        · rw [rOk, e2, hT2]; first | (rw [decide_eq_true (by omega)]; rfl) | (rw [decide_eq_false (by omega)]; rfl)
        · rw [e2]
  · refine pw_aload_n hX rfl dX1_readNumbers_30 (q := 31) rfl ?_
    refine pw_getO hX 0 (by decide) fl_X1_9 rfl dX1_readNumbers_31 (q := 34) rfl ?_
    refine pw_iload hX rfl dX1_readNumbers_34 (q := 36) rfl ?_
    refine pw_caldG hX (by omega) dX1_readNumbers_36 (q := 37) rfl ?_
    repeat first | rw [oW_7] | rw [oW_A] | rw [vA_vA] | rw [vA2_1] | rw [vA2_2]
    refine pw_istore hX (by decide) dX1_readNumbers_37 (q := 39) rfl ?_
    refine pw_iload hX rfl dX1_readNumbers_39 (q := 41) rfl ?_
    refine pw_bipush hX (k := 48) (by decide) dX1_readNumbers_41 (q := 43) rfl ?_
    refine pw_icmpN_lt hX (by first | omega | (have h9 := hT _ (show s + 1 + k < 60 by omega); omega)) (by first | omega | (have h9 := hT _ (show s + 1 + k < 60 by omega); omega)) (tgt := 77) dX1_readNumbers_43 (q := 46) rfl (by decide) (fun h_43 => ?_) (fun h_43 => ?_)
    · refine pw_iload hX rfl dX1_readNumbers_77 (q := 79) rfl ?_
      refine pw_iload_n hX rfl dX1_readNumbers_79 (q := 80) rfl ?_
      refine pw_icmpN_eq hX (by first | omega | (have h9 := hT _ (show s + 1 + k < 60 by omega); omega)) (by first | omega | (have h9 := hT _ (show s + 1 + k < 60 by omega); omega)) (tgt := 90) dX1_readNumbers_80 (q := 83) rfl (by decide) (fun h_80 => ?_) (fun h_80 => ?_)
      · refine pw_iconst hX (k := 1) rfl (by decide) dX1_readNumbers_90 (q := 91) rfl ?_
        refine pw_goto hX (tgt := 95) dX1_readNumbers_91 (by decide) ?_
        refine pw_istore hX (by decide) dX1_readNumbers_95 (q := 97) rfl ?_
        refine pw_iload hX rfl dX1_readNumbers_97 (q := 99) rfl ?_
        refine pw_ifN_eq hX (by first | omega | (have h9 := hT _ (show s + 1 + k < 60 by omega); omega)) (tgt := 113) dX1_readNumbers_99 (q := 102) rfl (by decide) (fun h_99 => ?_) (fun h_99 => ?_)
        · exact absurd h_99 (by decide)
        · refine pw_iload hX rfl dX1_readNumbers_102 (q := 104) rfl ?_
          refine pw_ifN_eq hX (by first | omega | (have h9 := hT _ (show s + 1 + k < 60 by omega); omega)) (tgt := 113) dX1_readNumbers_104 (q := 107) rfl (by decide) (fun h_104 => ?_) (fun h_104 => ?_)
          · have e1 : (rN (O 1) (tNums (O 1 s)) s e (O 2) (k + 1)) = (false, (rN (O 1) (tNums (O 1 s)) s e (O 2) k).2) := by rw [rN_s, if_pos hT2, rSt, if_neg (show ¬ (48 ≤ O 1 (s + 1 + k) ∧ O 1 (s + 1 + k) ≤ 57) by omega), if_neg (show ¬ ((s + 1 + k = e ∨ O 1 (s + 1 + k) = 44) ∧ (rN (O 1) (tNums (O 1 s)) s e (O 2) k).2.2.2.1 ≠ 0 ∧ (rN (O 1) (tNums (O 1 s)) s e (O 2) k).2.1 < (tNums (O 1 s))) by omega)]
            have e2 : rAll (O 1) s e (O 2) = (rN (O 1) (tNums (O 1 s)) s e (O 2) (k + 1)) := by rw [rAll, show e - s = (k + 1) + (e - s - (k + 1)) by omega]; exact rN_f (by rw [e1]) _
            refine pw_iconst hX (k := 0) rfl (by decide) dX1_readNumbers_113 (q := 114) rfl ?_
            refine pw_ireturn hX dX1_readNumbers_114 ⟨_, rfl, by first | exact bI_nar _ | decide | rfl⟩ ⟨congrArg (fun z => some (Value.int z)) ?_, ?_⟩
            · rw [rOk, e2, e1]; rfl
            · rw [e2, e1]
          · refine pw_iload hX rfl dX1_readNumbers_107 (q := 109) rfl ?_
            refine pw_iload_n hX rfl dX1_readNumbers_109 (q := 110) rfl ?_
            refine pw_icmpN_lt hX (by first | omega | (have h9 := hT _ (show s + 1 + k < 60 by omega); omega)) (by first | omega | (have h9 := hT _ (show s + 1 + k < 60 by omega); omega)) (tgt := 115) dX1_readNumbers_110 (q := 113) rfl (by decide) (fun h_110 => ?_) (fun h_110 => ?_)
            · refine pw_aload_n hX rfl dX1_readNumbers_115 (q := 116) rfl ?_
              refine pw_getO hX 2 (by decide) fl_X1_19 rfl dX1_readNumbers_116 (q := 119) rfl ?_
              refine pw_iload hX rfl dX1_readNumbers_119 (q := 121) rfl ?_
              refine pw_iload hX rfl dX1_readNumbers_121 (q := 123) rfl ?_
              refine pw_iastG hX (by omega) dX1_readNumbers_123 (q := 124) rfl ?_
              repeat first | rw [oW_7] | rw [oW_A] | rw [vA_vA] | rw [vA2_1] | rw [vA2_2]
              refine pw_iinc hX rfl (by decide) (inc1 _) dX1_readNumbers_124 (q := 127) rfl ?_
              refine pw_iconst hX (k := 0) rfl (by decide) dX1_readNumbers_127 (q := 128) rfl ?_
              refine pw_istore hX (by decide) dX1_readNumbers_128 (q := 130) rfl ?_
              refine pw_iconst hX (k := 0) rfl (by decide) dX1_readNumbers_130 (q := 131) rfl ?_
              refine pw_istore hX (by decide) dX1_readNumbers_131 (q := 133) rfl ?_
              refine pw_iinc hX rfl (by decide) (inc1 _) dX1_readNumbers_133 (q := 136) rfl ?_
              refine pw_goto hX (tgt := 24) dX1_readNumbers_136 (by decide) ?_
              have e1 : (rN (O 1) (tNums (O 1 s)) s e (O 2) (k + 1)) = (true, (rN (O 1) (tNums (O 1 s)) s e (O 2) k).2.1 + 1, 0, 0, upN (rN (O 1) (tNums (O 1 s)) s e (O 2) k).2.2.2.2 (rN (O 1) (tNums (O 1 s)) s e (O 2) k).2.1 (rN (O 1) (tNums (O 1 s)) s e (O 2) k).2.2.1) := by rw [rN_s, if_pos hT2, rSt, if_neg (show ¬ (48 ≤ O 1 (s + 1 + k) ∧ O 1 (s + 1 + k) ≤ 57) by omega), if_pos (show ((s + 1 + k = e ∨ O 1 (s + 1 + k) = 44) ∧ (rN (O 1) (tNums (O 1 s)) s e (O 2) k).2.2.2.1 ≠ 0 ∧ (rN (O 1) (tNums (O 1 s)) s e (O 2) k).2.1 < (tNums (O 1 s))) by omega)]
              exact pw_fg hX (lv' := [_, _, _, _, _, _, _, _, none, none]) (by repeat first | exact lle_nil | refine lle_cons ?_ | refine lle_none ?_) (pw_eq (by rw [e1]) (by rw [e1]; rfl) rfl (ih (by omega) (by rw [e1])))
            · have e1 : (rN (O 1) (tNums (O 1 s)) s e (O 2) (k + 1)) = (false, (rN (O 1) (tNums (O 1 s)) s e (O 2) k).2) := by rw [rN_s, if_pos hT2, rSt, if_neg (show ¬ (48 ≤ O 1 (s + 1 + k) ∧ O 1 (s + 1 + k) ≤ 57) by omega), if_neg (show ¬ ((s + 1 + k = e ∨ O 1 (s + 1 + k) = 44) ∧ (rN (O 1) (tNums (O 1 s)) s e (O 2) k).2.2.2.1 ≠ 0 ∧ (rN (O 1) (tNums (O 1 s)) s e (O 2) k).2.1 < (tNums (O 1 s))) by omega)]
              have e2 : rAll (O 1) s e (O 2) = (rN (O 1) (tNums (O 1 s)) s e (O 2) (k + 1)) := by rw [rAll, show e - s = (k + 1) + (e - s - (k + 1)) by omega]; exact rN_f (by rw [e1]) _
              refine pw_iconst hX (k := 0) rfl (by decide) dX1_readNumbers_113 (q := 114) rfl ?_
              refine pw_ireturn hX dX1_readNumbers_114 ⟨_, rfl, by first | exact bI_nar _ | decide | rfl⟩ ⟨congrArg (fun z => some (Value.int z)) ?_, ?_⟩
              · rw [rOk, e2, e1]; rfl
              · rw [e2, e1]
      · refine pw_iload hX rfl dX1_readNumbers_83 (q := 85) rfl ?_
        refine pw_bipush hX (k := 44) (by decide) dX1_readNumbers_85 (q := 87) rfl ?_
        refine pw_icmpN_ne hX (by first | omega | (have h9 := hT _ (show s + 1 + k < 60 by omega); omega)) (by first | omega | (have h9 := hT _ (show s + 1 + k < 60 by omega); omega)) (tgt := 94) dX1_readNumbers_87 (q := 90) rfl (by decide) (fun h_87 => ?_) (fun h_87 => ?_)
        · refine pw_iconst hX (k := 0) rfl (by decide) dX1_readNumbers_94 (q := 95) rfl ?_
          refine pw_istore hX (by decide) dX1_readNumbers_95 (q := 97) rfl ?_
          refine pw_iload hX rfl dX1_readNumbers_97 (q := 99) rfl ?_
          refine pw_ifN_eq hX (by first | omega | (have h9 := hT _ (show s + 1 + k < 60 by omega); omega)) (tgt := 113) dX1_readNumbers_99 (q := 102) rfl (by decide) (fun h_99 => ?_) (fun h_99 => ?_)
          · have e1 : (rN (O 1) (tNums (O 1 s)) s e (O 2) (k + 1)) = (false, (rN (O 1) (tNums (O 1 s)) s e (O 2) k).2) := by rw [rN_s, if_pos hT2, rSt, if_neg (show ¬ (48 ≤ O 1 (s + 1 + k) ∧ O 1 (s + 1 + k) ≤ 57) by omega), if_neg (show ¬ ((s + 1 + k = e ∨ O 1 (s + 1 + k) = 44) ∧ (rN (O 1) (tNums (O 1 s)) s e (O 2) k).2.2.2.1 ≠ 0 ∧ (rN (O 1) (tNums (O 1 s)) s e (O 2) k).2.1 < (tNums (O 1 s))) by omega)]
            have e2 : rAll (O 1) s e (O 2) = (rN (O 1) (tNums (O 1 s)) s e (O 2) (k + 1)) := by rw [rAll, show e - s = (k + 1) + (e - s - (k + 1)) by omega]; exact rN_f (by rw [e1]) _
            refine pw_iconst hX (k := 0) rfl (by decide) dX1_readNumbers_113 (q := 114) rfl ?_
            refine pw_ireturn hX dX1_readNumbers_114 ⟨_, rfl, by first | exact bI_nar _ | decide | rfl⟩ ⟨congrArg (fun z => some (Value.int z)) ?_, ?_⟩
            · rw [rOk, e2, e1]; rfl
            · rw [e2, e1]
          · exact absurd rfl h_99
        · refine pw_iconst hX (k := 1) rfl (by decide) dX1_readNumbers_90 (q := 91) rfl ?_
          refine pw_goto hX (tgt := 95) dX1_readNumbers_91 (by decide) ?_
          refine pw_istore hX (by decide) dX1_readNumbers_95 (q := 97) rfl ?_
          refine pw_iload hX rfl dX1_readNumbers_97 (q := 99) rfl ?_
          refine pw_ifN_eq hX (by first | omega | (have h9 := hT _ (show s + 1 + k < 60 by omega); omega)) (tgt := 113) dX1_readNumbers_99 (q := 102) rfl (by decide) (fun h_99 => ?_) (fun h_99 => ?_)
          · exact absurd h_99 (by decide)
          · refine pw_iload hX rfl dX1_readNumbers_102 (q := 104) rfl ?_
            refine pw_ifN_eq hX (by first | omega | (have h9 := hT _ (show s + 1 + k < 60 by omega); omega)) (tgt := 113) dX1_readNumbers_104 (q := 107) rfl (by decide) (fun h_104 => ?_) (fun h_104 => ?_)
            · have e1 : (rN (O 1) (tNums (O 1 s)) s e (O 2) (k + 1)) = (false, (rN (O 1) (tNums (O 1 s)) s e (O 2) k).2) := by rw [rN_s, if_pos hT2, rSt, if_neg (show ¬ (48 ≤ O 1 (s + 1 + k) ∧ O 1 (s + 1 + k) ≤ 57) by omega), if_neg (show ¬ ((s + 1 + k = e ∨ O 1 (s + 1 + k) = 44) ∧ (rN (O 1) (tNums (O 1 s)) s e (O 2) k).2.2.2.1 ≠ 0 ∧ (rN (O 1) (tNums (O 1 s)) s e (O 2) k).2.1 < (tNums (O 1 s))) by omega)]
              have e2 : rAll (O 1) s e (O 2) = (rN (O 1) (tNums (O 1 s)) s e (O 2) (k + 1)) := by rw [rAll, show e - s = (k + 1) + (e - s - (k + 1)) by omega]; exact rN_f (by rw [e1]) _
              refine pw_iconst hX (k := 0) rfl (by decide) dX1_readNumbers_113 (q := 114) rfl ?_
              refine pw_ireturn hX dX1_readNumbers_114 ⟨_, rfl, by first | exact bI_nar _ | decide | rfl⟩ ⟨congrArg (fun z => some (Value.int z)) ?_, ?_⟩
              · rw [rOk, e2, e1]; rfl
              · rw [e2, e1]
            · refine pw_iload hX rfl dX1_readNumbers_107 (q := 109) rfl ?_
              refine pw_iload_n hX rfl dX1_readNumbers_109 (q := 110) rfl ?_
              refine pw_icmpN_lt hX (by first | omega | (have h9 := hT _ (show s + 1 + k < 60 by omega); omega)) (by first | omega | (have h9 := hT _ (show s + 1 + k < 60 by omega); omega)) (tgt := 115) dX1_readNumbers_110 (q := 113) rfl (by decide) (fun h_110 => ?_) (fun h_110 => ?_)
              · refine pw_aload_n hX rfl dX1_readNumbers_115 (q := 116) rfl ?_
                refine pw_getO hX 2 (by decide) fl_X1_19 rfl dX1_readNumbers_116 (q := 119) rfl ?_
                refine pw_iload hX rfl dX1_readNumbers_119 (q := 121) rfl ?_
                refine pw_iload hX rfl dX1_readNumbers_121 (q := 123) rfl ?_
                refine pw_iastG hX (by omega) dX1_readNumbers_123 (q := 124) rfl ?_
                repeat first | rw [oW_7] | rw [oW_A] | rw [vA_vA] | rw [vA2_1] | rw [vA2_2]
                refine pw_iinc hX rfl (by decide) (inc1 _) dX1_readNumbers_124 (q := 127) rfl ?_
                refine pw_iconst hX (k := 0) rfl (by decide) dX1_readNumbers_127 (q := 128) rfl ?_
                refine pw_istore hX (by decide) dX1_readNumbers_128 (q := 130) rfl ?_
                refine pw_iconst hX (k := 0) rfl (by decide) dX1_readNumbers_130 (q := 131) rfl ?_
                refine pw_istore hX (by decide) dX1_readNumbers_131 (q := 133) rfl ?_
                refine pw_iinc hX rfl (by decide) (inc1 _) dX1_readNumbers_133 (q := 136) rfl ?_
                refine pw_goto hX (tgt := 24) dX1_readNumbers_136 (by decide) ?_
                have e1 : (rN (O 1) (tNums (O 1 s)) s e (O 2) (k + 1)) = (true, (rN (O 1) (tNums (O 1 s)) s e (O 2) k).2.1 + 1, 0, 0, upN (rN (O 1) (tNums (O 1 s)) s e (O 2) k).2.2.2.2 (rN (O 1) (tNums (O 1 s)) s e (O 2) k).2.1 (rN (O 1) (tNums (O 1 s)) s e (O 2) k).2.2.1) := by rw [rN_s, if_pos hT2, rSt, if_neg (show ¬ (48 ≤ O 1 (s + 1 + k) ∧ O 1 (s + 1 + k) ≤ 57) by omega), if_pos (show ((s + 1 + k = e ∨ O 1 (s + 1 + k) = 44) ∧ (rN (O 1) (tNums (O 1 s)) s e (O 2) k).2.2.2.1 ≠ 0 ∧ (rN (O 1) (tNums (O 1 s)) s e (O 2) k).2.1 < (tNums (O 1 s))) by omega)]
                exact pw_fg hX (lv' := [_, _, _, _, _, _, _, _, none, none]) (by repeat first | exact lle_nil | refine lle_cons ?_ | refine lle_none ?_) (pw_eq (by rw [e1]) (by rw [e1]; rfl) rfl (ih (by omega) (by rw [e1])))
              · have e1 : (rN (O 1) (tNums (O 1 s)) s e (O 2) (k + 1)) = (false, (rN (O 1) (tNums (O 1 s)) s e (O 2) k).2) := by rw [rN_s, if_pos hT2, rSt, if_neg (show ¬ (48 ≤ O 1 (s + 1 + k) ∧ O 1 (s + 1 + k) ≤ 57) by omega), if_neg (show ¬ ((s + 1 + k = e ∨ O 1 (s + 1 + k) = 44) ∧ (rN (O 1) (tNums (O 1 s)) s e (O 2) k).2.2.2.1 ≠ 0 ∧ (rN (O 1) (tNums (O 1 s)) s e (O 2) k).2.1 < (tNums (O 1 s))) by omega)]
                have e2 : rAll (O 1) s e (O 2) = (rN (O 1) (tNums (O 1 s)) s e (O 2) (k + 1)) := by rw [rAll, show e - s = (k + 1) + (e - s - (k + 1)) by omega]; exact rN_f (by rw [e1]) _
                refine pw_iconst hX (k := 0) rfl (by decide) dX1_readNumbers_113 (q := 114) rfl ?_
                refine pw_ireturn hX dX1_readNumbers_114 ⟨_, rfl, by first | exact bI_nar _ | decide | rfl⟩ ⟨congrArg (fun z => some (Value.int z)) ?_, ?_⟩
                · rw [rOk, e2, e1]; rfl
                · rw [e2, e1]
    · refine pw_iload hX rfl dX1_readNumbers_46 (q := 48) rfl ?_
      refine pw_bipush hX (k := 57) (by decide) dX1_readNumbers_48 (q := 50) rfl ?_
      refine pw_icmpN_gt hX (by first | omega | (have h9 := hT _ (show s + 1 + k < 60 by omega); omega)) (by first | omega | (have h9 := hT _ (show s + 1 + k < 60 by omega); omega)) (tgt := 77) dX1_readNumbers_50 (q := 53) rfl (by decide) (fun h_50 => ?_) (fun h_50 => ?_)
      · refine pw_iload hX rfl dX1_readNumbers_77 (q := 79) rfl ?_
        refine pw_iload_n hX rfl dX1_readNumbers_79 (q := 80) rfl ?_
        refine pw_icmpN_eq hX (by first | omega | (have h9 := hT _ (show s + 1 + k < 60 by omega); omega)) (by first | omega | (have h9 := hT _ (show s + 1 + k < 60 by omega); omega)) (tgt := 90) dX1_readNumbers_80 (q := 83) rfl (by decide) (fun h_80 => ?_) (fun h_80 => ?_)
        · refine pw_iconst hX (k := 1) rfl (by decide) dX1_readNumbers_90 (q := 91) rfl ?_
          refine pw_goto hX (tgt := 95) dX1_readNumbers_91 (by decide) ?_
          refine pw_istore hX (by decide) dX1_readNumbers_95 (q := 97) rfl ?_
          refine pw_iload hX rfl dX1_readNumbers_97 (q := 99) rfl ?_
          refine pw_ifN_eq hX (by first | omega | (have h9 := hT _ (show s + 1 + k < 60 by omega); omega)) (tgt := 113) dX1_readNumbers_99 (q := 102) rfl (by decide) (fun h_99 => ?_) (fun h_99 => ?_)
          · exact absurd h_99 (by decide)
          · refine pw_iload hX rfl dX1_readNumbers_102 (q := 104) rfl ?_
            refine pw_ifN_eq hX (by first | omega | (have h9 := hT _ (show s + 1 + k < 60 by omega); omega)) (tgt := 113) dX1_readNumbers_104 (q := 107) rfl (by decide) (fun h_104 => ?_) (fun h_104 => ?_)
            · have e1 : (rN (O 1) (tNums (O 1 s)) s e (O 2) (k + 1)) = (false, (rN (O 1) (tNums (O 1 s)) s e (O 2) k).2) := by rw [rN_s, if_pos hT2, rSt, if_neg (show ¬ (48 ≤ O 1 (s + 1 + k) ∧ O 1 (s + 1 + k) ≤ 57) by omega), if_neg (show ¬ ((s + 1 + k = e ∨ O 1 (s + 1 + k) = 44) ∧ (rN (O 1) (tNums (O 1 s)) s e (O 2) k).2.2.2.1 ≠ 0 ∧ (rN (O 1) (tNums (O 1 s)) s e (O 2) k).2.1 < (tNums (O 1 s))) by omega)]
              have e2 : rAll (O 1) s e (O 2) = (rN (O 1) (tNums (O 1 s)) s e (O 2) (k + 1)) := by rw [rAll, show e - s = (k + 1) + (e - s - (k + 1)) by omega]; exact rN_f (by rw [e1]) _
              refine pw_iconst hX (k := 0) rfl (by decide) dX1_readNumbers_113 (q := 114) rfl ?_
              refine pw_ireturn hX dX1_readNumbers_114 ⟨_, rfl, by first | exact bI_nar _ | decide | rfl⟩ ⟨congrArg (fun z => some (Value.int z)) ?_, ?_⟩
              · rw [rOk, e2, e1]; rfl
              · rw [e2, e1]
            · refine pw_iload hX rfl dX1_readNumbers_107 (q := 109) rfl ?_
              refine pw_iload_n hX rfl dX1_readNumbers_109 (q := 110) rfl ?_
              refine pw_icmpN_lt hX (by first | omega | (have h9 := hT _ (show s + 1 + k < 60 by omega); omega)) (by first | omega | (have h9 := hT _ (show s + 1 + k < 60 by omega); omega)) (tgt := 115) dX1_readNumbers_110 (q := 113) rfl (by decide) (fun h_110 => ?_) (fun h_110 => ?_)
              · refine pw_aload_n hX rfl dX1_readNumbers_115 (q := 116) rfl ?_
                refine pw_getO hX 2 (by decide) fl_X1_19 rfl dX1_readNumbers_116 (q := 119) rfl ?_
                refine pw_iload hX rfl dX1_readNumbers_119 (q := 121) rfl ?_
                refine pw_iload hX rfl dX1_readNumbers_121 (q := 123) rfl ?_
                refine pw_iastG hX (by omega) dX1_readNumbers_123 (q := 124) rfl ?_
                repeat first | rw [oW_7] | rw [oW_A] | rw [vA_vA] | rw [vA2_1] | rw [vA2_2]
                refine pw_iinc hX rfl (by decide) (inc1 _) dX1_readNumbers_124 (q := 127) rfl ?_
                refine pw_iconst hX (k := 0) rfl (by decide) dX1_readNumbers_127 (q := 128) rfl ?_
                refine pw_istore hX (by decide) dX1_readNumbers_128 (q := 130) rfl ?_
                refine pw_iconst hX (k := 0) rfl (by decide) dX1_readNumbers_130 (q := 131) rfl ?_
                refine pw_istore hX (by decide) dX1_readNumbers_131 (q := 133) rfl ?_
                refine pw_iinc hX rfl (by decide) (inc1 _) dX1_readNumbers_133 (q := 136) rfl ?_
                refine pw_goto hX (tgt := 24) dX1_readNumbers_136 (by decide) ?_
                have e1 : (rN (O 1) (tNums (O 1 s)) s e (O 2) (k + 1)) = (true, (rN (O 1) (tNums (O 1 s)) s e (O 2) k).2.1 + 1, 0, 0, upN (rN (O 1) (tNums (O 1 s)) s e (O 2) k).2.2.2.2 (rN (O 1) (tNums (O 1 s)) s e (O 2) k).2.1 (rN (O 1) (tNums (O 1 s)) s e (O 2) k).2.2.1) := by rw [rN_s, if_pos hT2, rSt, if_neg (show ¬ (48 ≤ O 1 (s + 1 + k) ∧ O 1 (s + 1 + k) ≤ 57) by omega), if_pos (show ((s + 1 + k = e ∨ O 1 (s + 1 + k) = 44) ∧ (rN (O 1) (tNums (O 1 s)) s e (O 2) k).2.2.2.1 ≠ 0 ∧ (rN (O 1) (tNums (O 1 s)) s e (O 2) k).2.1 < (tNums (O 1 s))) by omega)]
                exact pw_fg hX (lv' := [_, _, _, _, _, _, _, _, none, none]) (by repeat first | exact lle_nil | refine lle_cons ?_ | refine lle_none ?_) (pw_eq (by rw [e1]) (by rw [e1]; rfl) rfl (ih (by omega) (by rw [e1])))
              · have e1 : (rN (O 1) (tNums (O 1 s)) s e (O 2) (k + 1)) = (false, (rN (O 1) (tNums (O 1 s)) s e (O 2) k).2) := by rw [rN_s, if_pos hT2, rSt, if_neg (show ¬ (48 ≤ O 1 (s + 1 + k) ∧ O 1 (s + 1 + k) ≤ 57) by omega), if_neg (show ¬ ((s + 1 + k = e ∨ O 1 (s + 1 + k) = 44) ∧ (rN (O 1) (tNums (O 1 s)) s e (O 2) k).2.2.2.1 ≠ 0 ∧ (rN (O 1) (tNums (O 1 s)) s e (O 2) k).2.1 < (tNums (O 1 s))) by omega)]
                have e2 : rAll (O 1) s e (O 2) = (rN (O 1) (tNums (O 1 s)) s e (O 2) (k + 1)) := by rw [rAll, show e - s = (k + 1) + (e - s - (k + 1)) by omega]; exact rN_f (by rw [e1]) _
                refine pw_iconst hX (k := 0) rfl (by decide) dX1_readNumbers_113 (q := 114) rfl ?_
                refine pw_ireturn hX dX1_readNumbers_114 ⟨_, rfl, by first | exact bI_nar _ | decide | rfl⟩ ⟨congrArg (fun z => some (Value.int z)) ?_, ?_⟩
                · rw [rOk, e2, e1]; rfl
                · rw [e2, e1]
        · refine pw_iload hX rfl dX1_readNumbers_83 (q := 85) rfl ?_
          refine pw_bipush hX (k := 44) (by decide) dX1_readNumbers_85 (q := 87) rfl ?_
          refine pw_icmpN_ne hX (by first | omega | (have h9 := hT _ (show s + 1 + k < 60 by omega); omega)) (by first | omega | (have h9 := hT _ (show s + 1 + k < 60 by omega); omega)) (tgt := 94) dX1_readNumbers_87 (q := 90) rfl (by decide) (fun h_87 => ?_) (fun h_87 => ?_)
          · refine pw_iconst hX (k := 0) rfl (by decide) dX1_readNumbers_94 (q := 95) rfl ?_
            refine pw_istore hX (by decide) dX1_readNumbers_95 (q := 97) rfl ?_
            refine pw_iload hX rfl dX1_readNumbers_97 (q := 99) rfl ?_
            refine pw_ifN_eq hX (by first | omega | (have h9 := hT _ (show s + 1 + k < 60 by omega); omega)) (tgt := 113) dX1_readNumbers_99 (q := 102) rfl (by decide) (fun h_99 => ?_) (fun h_99 => ?_)
            · have e1 : (rN (O 1) (tNums (O 1 s)) s e (O 2) (k + 1)) = (false, (rN (O 1) (tNums (O 1 s)) s e (O 2) k).2) := by rw [rN_s, if_pos hT2, rSt, if_neg (show ¬ (48 ≤ O 1 (s + 1 + k) ∧ O 1 (s + 1 + k) ≤ 57) by omega), if_neg (show ¬ ((s + 1 + k = e ∨ O 1 (s + 1 + k) = 44) ∧ (rN (O 1) (tNums (O 1 s)) s e (O 2) k).2.2.2.1 ≠ 0 ∧ (rN (O 1) (tNums (O 1 s)) s e (O 2) k).2.1 < (tNums (O 1 s))) by omega)]
              have e2 : rAll (O 1) s e (O 2) = (rN (O 1) (tNums (O 1 s)) s e (O 2) (k + 1)) := by rw [rAll, show e - s = (k + 1) + (e - s - (k + 1)) by omega]; exact rN_f (by rw [e1]) _
              refine pw_iconst hX (k := 0) rfl (by decide) dX1_readNumbers_113 (q := 114) rfl ?_
              refine pw_ireturn hX dX1_readNumbers_114 ⟨_, rfl, by first | exact bI_nar _ | decide | rfl⟩ ⟨congrArg (fun z => some (Value.int z)) ?_, ?_⟩
              · rw [rOk, e2, e1]; rfl
              · rw [e2, e1]
            · exact absurd rfl h_99
          · refine pw_iconst hX (k := 1) rfl (by decide) dX1_readNumbers_90 (q := 91) rfl ?_
            refine pw_goto hX (tgt := 95) dX1_readNumbers_91 (by decide) ?_
            refine pw_istore hX (by decide) dX1_readNumbers_95 (q := 97) rfl ?_
            refine pw_iload hX rfl dX1_readNumbers_97 (q := 99) rfl ?_
            refine pw_ifN_eq hX (by first | omega | (have h9 := hT _ (show s + 1 + k < 60 by omega); omega)) (tgt := 113) dX1_readNumbers_99 (q := 102) rfl (by decide) (fun h_99 => ?_) (fun h_99 => ?_)
            · exact absurd h_99 (by decide)
            · refine pw_iload hX rfl dX1_readNumbers_102 (q := 104) rfl ?_
              refine pw_ifN_eq hX (by first | omega | (have h9 := hT _ (show s + 1 + k < 60 by omega); omega)) (tgt := 113) dX1_readNumbers_104 (q := 107) rfl (by decide) (fun h_104 => ?_) (fun h_104 => ?_)
              · have e1 : (rN (O 1) (tNums (O 1 s)) s e (O 2) (k + 1)) = (false, (rN (O 1) (tNums (O 1 s)) s e (O 2) k).2) := by rw [rN_s, if_pos hT2, rSt, if_neg (show ¬ (48 ≤ O 1 (s + 1 + k) ∧ O 1 (s + 1 + k) ≤ 57) by omega), if_neg (show ¬ ((s + 1 + k = e ∨ O 1 (s + 1 + k) = 44) ∧ (rN (O 1) (tNums (O 1 s)) s e (O 2) k).2.2.2.1 ≠ 0 ∧ (rN (O 1) (tNums (O 1 s)) s e (O 2) k).2.1 < (tNums (O 1 s))) by omega)]
                have e2 : rAll (O 1) s e (O 2) = (rN (O 1) (tNums (O 1 s)) s e (O 2) (k + 1)) := by rw [rAll, show e - s = (k + 1) + (e - s - (k + 1)) by omega]; exact rN_f (by rw [e1]) _
                refine pw_iconst hX (k := 0) rfl (by decide) dX1_readNumbers_113 (q := 114) rfl ?_
                refine pw_ireturn hX dX1_readNumbers_114 ⟨_, rfl, by first | exact bI_nar _ | decide | rfl⟩ ⟨congrArg (fun z => some (Value.int z)) ?_, ?_⟩
                · rw [rOk, e2, e1]; rfl
                · rw [e2, e1]
              · refine pw_iload hX rfl dX1_readNumbers_107 (q := 109) rfl ?_
                refine pw_iload_n hX rfl dX1_readNumbers_109 (q := 110) rfl ?_
                refine pw_icmpN_lt hX (by first | omega | (have h9 := hT _ (show s + 1 + k < 60 by omega); omega)) (by first | omega | (have h9 := hT _ (show s + 1 + k < 60 by omega); omega)) (tgt := 115) dX1_readNumbers_110 (q := 113) rfl (by decide) (fun h_110 => ?_) (fun h_110 => ?_)
                · refine pw_aload_n hX rfl dX1_readNumbers_115 (q := 116) rfl ?_
                  refine pw_getO hX 2 (by decide) fl_X1_19 rfl dX1_readNumbers_116 (q := 119) rfl ?_
                  refine pw_iload hX rfl dX1_readNumbers_119 (q := 121) rfl ?_
                  refine pw_iload hX rfl dX1_readNumbers_121 (q := 123) rfl ?_
                  refine pw_iastG hX (by omega) dX1_readNumbers_123 (q := 124) rfl ?_
                  repeat first | rw [oW_7] | rw [oW_A] | rw [vA_vA] | rw [vA2_1] | rw [vA2_2]
                  refine pw_iinc hX rfl (by decide) (inc1 _) dX1_readNumbers_124 (q := 127) rfl ?_
                  refine pw_iconst hX (k := 0) rfl (by decide) dX1_readNumbers_127 (q := 128) rfl ?_
                  refine pw_istore hX (by decide) dX1_readNumbers_128 (q := 130) rfl ?_
                  refine pw_iconst hX (k := 0) rfl (by decide) dX1_readNumbers_130 (q := 131) rfl ?_
                  refine pw_istore hX (by decide) dX1_readNumbers_131 (q := 133) rfl ?_
                  refine pw_iinc hX rfl (by decide) (inc1 _) dX1_readNumbers_133 (q := 136) rfl ?_
                  refine pw_goto hX (tgt := 24) dX1_readNumbers_136 (by decide) ?_
                  have e1 : (rN (O 1) (tNums (O 1 s)) s e (O 2) (k + 1)) = (true, (rN (O 1) (tNums (O 1 s)) s e (O 2) k).2.1 + 1, 0, 0, upN (rN (O 1) (tNums (O 1 s)) s e (O 2) k).2.2.2.2 (rN (O 1) (tNums (O 1 s)) s e (O 2) k).2.1 (rN (O 1) (tNums (O 1 s)) s e (O 2) k).2.2.1) := by rw [rN_s, if_pos hT2, rSt, if_neg (show ¬ (48 ≤ O 1 (s + 1 + k) ∧ O 1 (s + 1 + k) ≤ 57) by omega), if_pos (show ((s + 1 + k = e ∨ O 1 (s + 1 + k) = 44) ∧ (rN (O 1) (tNums (O 1 s)) s e (O 2) k).2.2.2.1 ≠ 0 ∧ (rN (O 1) (tNums (O 1 s)) s e (O 2) k).2.1 < (tNums (O 1 s))) by omega)]
                  exact pw_fg hX (lv' := [_, _, _, _, _, _, _, _, none, none]) (by repeat first | exact lle_nil | refine lle_cons ?_ | refine lle_none ?_) (pw_eq (by rw [e1]) (by rw [e1]; rfl) rfl (ih (by omega) (by rw [e1])))
                · have e1 : (rN (O 1) (tNums (O 1 s)) s e (O 2) (k + 1)) = (false, (rN (O 1) (tNums (O 1 s)) s e (O 2) k).2) := by rw [rN_s, if_pos hT2, rSt, if_neg (show ¬ (48 ≤ O 1 (s + 1 + k) ∧ O 1 (s + 1 + k) ≤ 57) by omega), if_neg (show ¬ ((s + 1 + k = e ∨ O 1 (s + 1 + k) = 44) ∧ (rN (O 1) (tNums (O 1 s)) s e (O 2) k).2.2.2.1 ≠ 0 ∧ (rN (O 1) (tNums (O 1 s)) s e (O 2) k).2.1 < (tNums (O 1 s))) by omega)]
                  have e2 : rAll (O 1) s e (O 2) = (rN (O 1) (tNums (O 1 s)) s e (O 2) (k + 1)) := by rw [rAll, show e - s = (k + 1) + (e - s - (k + 1)) by omega]; exact rN_f (by rw [e1]) _
                  refine pw_iconst hX (k := 0) rfl (by decide) dX1_readNumbers_113 (q := 114) rfl ?_
                  refine pw_ireturn hX dX1_readNumbers_114 ⟨_, rfl, by first | exact bI_nar _ | decide | rfl⟩ ⟨congrArg (fun z => some (Value.int z)) ?_, ?_⟩
                  · rw [rOk, e2, e1]; rfl
                  · rw [e2, e1]
      · refine pw_iload hX rfl dX1_readNumbers_53 (q := 55) rfl ?_
        refine pw_bipush hX (k := 10) (by decide) dX1_readNumbers_55 (q := 57) rfl ?_
        refine pw_imulN hX dX1_readNumbers_57 (q := 58) rfl ?_
        refine pw_iload hX rfl dX1_readNumbers_58 (q := 60) rfl ?_
        refine pw_bipush hX (k := 48) (by decide) dX1_readNumbers_60 (q := 62) rfl ?_
        refine pw_isubN hX (by first | assumption | omega) dX1_readNumbers_62 (q := 63) rfl ?_
        refine pw_iaddN hX dX1_readNumbers_63 (q := 64) rfl ?_
        refine pw_istore hX (by decide) dX1_readNumbers_64 (q := 66) rfl ?_
        refine pw_iinc hX rfl (by decide) (inc1 _) dX1_readNumbers_66 (q := 69) rfl ?_
        refine pw_iload hX rfl dX1_readNumbers_69 (q := 71) rfl ?_
        refine pw_iconst hX (k := 2) rfl (by decide) dX1_readNumbers_71 (q := 72) rfl ?_
        refine pw_icmpN_le hX (by first | omega | (have h9 := hT _ (show s + 1 + k < 60 by omega); omega)) (by first | omega | (have h9 := hT _ (show s + 1 + k < 60 by omega); omega)) (tgt := 133) dX1_readNumbers_72 (q := 75) rfl (by decide) (fun h_72 => ?_) (fun h_72 => ?_)
        · refine pw_iinc hX rfl (by decide) (inc1 _) dX1_readNumbers_133 (q := 136) rfl ?_
          refine pw_goto hX (tgt := 24) dX1_readNumbers_136 (by decide) ?_
          have e1 : (rN (O 1) (tNums (O 1 s)) s e (O 2) (k + 1)) = (decide ((rN (O 1) (tNums (O 1 s)) s e (O 2) k).2.2.2.1 + 1 ≤ 2), (rN (O 1) (tNums (O 1 s)) s e (O 2) k).2.1, (rN (O 1) (tNums (O 1 s)) s e (O 2) k).2.2.1 * 10 + (O 1 (s + 1 + k) - 48), (rN (O 1) (tNums (O 1 s)) s e (O 2) k).2.2.2.1 + 1, (rN (O 1) (tNums (O 1 s)) s e (O 2) k).2.2.2.2) := by rw [rN_s, if_pos hT2, rSt, if_pos (show 48 ≤ O 1 (s + 1 + k) ∧ O 1 (s + 1 + k) ≤ 57 by omega)]
          exact pw_fg hX (lv' := [_, _, _, _, _, _, _, _, none, none]) (by repeat first | exact lle_nil | refine lle_cons ?_ | refine lle_none ?_) (pw_eq (by rw [e1]) (by rw [e1]; rfl) rfl (ih (by omega) (by rw [e1]; exact decide_eq_true h_72)))
        · have e1 : (rN (O 1) (tNums (O 1 s)) s e (O 2) (k + 1)) = (decide ((rN (O 1) (tNums (O 1 s)) s e (O 2) k).2.2.2.1 + 1 ≤ 2), (rN (O 1) (tNums (O 1 s)) s e (O 2) k).2.1, (rN (O 1) (tNums (O 1 s)) s e (O 2) k).2.2.1 * 10 + (O 1 (s + 1 + k) - 48), (rN (O 1) (tNums (O 1 s)) s e (O 2) k).2.2.2.1 + 1, (rN (O 1) (tNums (O 1 s)) s e (O 2) k).2.2.2.2) := by rw [rN_s, if_pos hT2, rSt, if_pos (show 48 ≤ O 1 (s + 1 + k) ∧ O 1 (s + 1 + k) ≤ 57 by omega)]
          have e2 : rAll (O 1) s e (O 2) = (rN (O 1) (tNums (O 1 s)) s e (O 2) (k + 1)) := by rw [rAll, show e - s = (k + 1) + (e - s - (k + 1)) by omega]; exact rN_f (by rw [e1]; exact decide_eq_false (by omega)) _
          have e3 : (rN (O 1) (tNums (O 1 s)) s e (O 2) (k + 1)).1 = false := by rw [e1]; exact decide_eq_false (by omega)
          refine pw_iconst hX (k := 0) rfl (by decide) dX1_readNumbers_75 (q := 76) rfl ?_
          refine pw_ireturn hX dX1_readNumbers_76 ⟨_, rfl, by first | exact bI_nar _ | decide | rfl⟩ ⟨congrArg (fun z => some (Value.int z)) ?_, ?_⟩
          · rw [rOk, e2, e3]; rfl
          · rw [e2, e1]
