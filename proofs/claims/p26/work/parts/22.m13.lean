theorem n_andnot {a s : Nat} (ha : a < 2 ^ 31) : nI a &&& (nI s ^^^ (-1)) = 0 ↔ s &&& a = a := by
  have e32 : a < 2 ^ 32 := by omega
  constructor
  · intro h
    have hb : (BitVec.ofNat 32 a &&& (BitVec.ofNat 32 s ^^^ BitVec.allOnes 32)) = 0#32 := congrArg Int32.toBitVec h
    apply Nat.eq_of_testBit_eq
    intro i
    rw [Nat.testBit_and]
    by_cases hi : i < 32
    · have h3 := congrArg (fun b => b.getLsbD i) hb
      simp only [BitVec.getLsbD_and, BitVec.getLsbD_xor, BitVec.getLsbD_ofNat, BitVec.getLsbD_allOnes, BitVec.getLsbD_zero, Nat.zero_testBit, hi, decide_true, Bool.true_and] at h3
      cases h5 : a.testBit i <;> cases h6 : s.testBit i <;> rw [h5, h6] at h3 <;> revert h3 <;> decide
    · rw [Nat.testBit_lt_two_pow (Nat.lt_of_lt_of_le e32 (Nat.pow_le_pow_right (by decide) (by omega))), Bool.and_false]
  · intro h
    apply Int32.toBitVec_inj.mp
    show (BitVec.ofNat 32 a &&& (BitVec.ofNat 32 s ^^^ BitVec.allOnes 32)) = 0#32
    apply BitVec.eq_of_getLsbD_eq
    intro i hi
    have h3 : (s.testBit i && a.testBit i) = a.testBit i := by rw [← Nat.testBit_and, h]
    simp only [BitVec.getLsbD_and, BitVec.getLsbD_xor, BitVec.getLsbD_ofNat, BitVec.getLsbD_allOnes, BitVec.getLsbD_zero, Nat.zero_testBit, hi, decide_true, Bool.true_and]
    cases h5 : a.testBit i <;> cases h6 : s.testBit i <;> rw [h5, h6] at h3 <;> revert h3 <;> decide
def kOver (V : Nat → Nat → Nat) (p a : Nat) : Bool := decide (V 9 p &&& a = a ∨ V 0 2 ≤ V 0 1 - V 8 p)
def bP (V : Nat → Nat → Nat) : Prop := bV V ∧ ∀ p, p < 84 → V 8 p ≤ V 0 1
def kPb (V : Nat → Nat → Nat) (p a : Nat) : Bool := kTmb V p && kOver V p a
def kPs (V : Nat → Nat → Nat) (p a : Nat) : Nat → Nat → Nat := if kPb V p a = true then vU (vU V 10 p (mx (V 10 p) (V 5 p))) 5 p 0 else V
def kPt (V : Nat → Nat → Nat) (v a : Nat) : Nat → (Nat → Nat → Nat) × Nat
  | 0 => (V, 0)
  | t + 1 => (kPs (kPt V v a t).1 (v * 12 + t) a, (kPt V v a t).2 + if kPb (kPt V v a t).1 (v * 12 + t) a = true then 1 else 0)
theorem kPt_s (V : Nat → Nat → Nat) (v a t : Nat) : kPt V v a (t + 1) = (kPs (kPt V v a t).1 (v * 12 + t) a, (kPt V v a t).2 + if kPb (kPt V v a t).1 (v * 12 + t) a = true then 1 else 0) := rfl
def kPr (V : Nat → Nat → Nat) (v a : Nat) : (Nat → Nat → Nat) × Nat := kPt V v a 12
def kPv (V : Nat → Nat → Nat) (a : Nat) : Nat → (Nat → Nat → Nat) × Nat
  | 0 => (V, 0)
  | v + 1 => ((kPr (kPv V a v).1 v a).1, (kPv V a v).2 + (kPr (kPv V a v).1 v a).2)
theorem kPv_s (V : Nat → Nat → Nat) (a v : Nat) : kPv V a (v + 1) = ((kPr (kPv V a v).1 v a).1, (kPv V a v).2 + (kPr (kPv V a v).1 v a).2) := rfl
theorem kPs_0 (V : Nat → Nat → Nat) (p a : Nat) : kPs V p a 0 = V 0 ∧ kPs V p a 8 = V 8 := by
  unfold kPs
  split
  · exact ⟨rfl, rfl⟩
  · exact ⟨rfl, rfl⟩
theorem bP_Ps {V : Nat → Nat → Nat} (h : bP V) {p : Nat} (a : Nat) (hp : p < 84) : bP (kPs V p a) := by
  refine ⟨?_, fun q hq => by rw [(kPs_0 V p a).1, (kPs_0 V p a).2]; exact h.2 q hq⟩
  unfold kPs
  split
  · exact bV_vU (bV_vU h.1 (mx_lt (h.1.2.1 10 p (by decide) (by decide) hp) (h.1.2.1 5 p (by decide) (by decide) hp)) (by omega)) (by decide) (by omega)
  · exact h.1
theorem bP_Pt {V : Nat → Nat → Nat} (h : bP V) {v a : Nat} (hv : v < 7) : ∀ t, t ≤ 12 → bP (kPt V v a t).1 ∧ (kPt V v a t).1 0 = V 0
  | 0, _ => ⟨h, rfl⟩
  | t + 1, ht => by
    have h1 := bP_Pt h (a := a) hv t (by omega)
    rw [kPt_s]
    exact ⟨bP_Ps h1.1 a (by omega), (kPs_0 _ _ _).1.trans h1.2⟩
theorem bP_Pr {V : Nat → Nat → Nat} (h : bP V) {v a : Nat} (hv : v < 7) : bP (kPr V v a).1 ∧ (kPr V v a).1 0 = V 0 := by
  unfold kPr
  exact bP_Pt h hv 12 (Nat.le_refl _)
theorem bP_Pv {V : Nat → Nat → Nat} (h : bP V) {a : Nat} : ∀ v, v ≤ 7 → bP (kPv V a v).1 ∧ (kPv V a v).1 0 = V 0
  | 0, _ => ⟨h, rfl⟩
  | v + 1, hv => by
    have h1 := bP_Pv h (a := a) v (by omega)
    rw [kPv_s]
    have h2 := bP_Pr h1.1 (a := a) (v := v) (by omega)
    dsimp only
    exact ⟨h2.1, h2.2.trans h1.2⟩
def kPass (V : Nat → Nat → Nat) (k : Nat) : (Nat → Nat → Nat) × Nat := kPv (vU V 0 1 (V 0 1 + k)) (kPres (vU V 0 1 (V 0 1 + k))) (V 0 0)
def kTick (V : Nat → Nat → Nat) (v : Int32) : (Nat → Nat → Nat) × Int32 := if inN 1 60 v = true then (if 100000 < V 0 1 + ix v then (V, -1000003) else ((kPass V (ix v)).1, nI (kPass V (ix v)).2)) else (V, -1000001)
theorem bP_t {V : Nat → Nat → Nat} (h : bP V) {k : Nat} (hk : V 0 1 + k < 2 ^ 30) : bP (vU V 0 1 (V 0 1 + k)) := by
  refine ⟨bV_vU h.1 hk (by omega), fun p hp => ?_⟩
  show V 8 p ≤ upN (V 0) 1 (V 0 1 + k) 1
  rw [upN_s]
  have := h.2 p hp
  omega
theorem cnt_congr {p q : Nat → Bool} : ∀ n, (∀ i, i < n → p i = q i) → cnt p n = cnt q n
  | 0, _ => rfl
  | n + 1, h => by rw [cnt_s, cnt_s, cnt_congr n (fun i hi => h i (by omega)), h n (by omega)]
theorem bits_tb (p : Nat → Bool) : ∀ n i, (bits p n).testBit i = (decide (i < n) && p i)
  | 0, i => by rw [decide_eq_false (by omega)]; exact Nat.zero_testBit i
  | n + 1, i => by
    rw [bits_s, Nat.testBit_or, bits_tb p n i]
    by_cases h : i = n
    · subst h
      rw [decide_eq_false (Nat.lt_irrefl i), decide_eq_true (Nat.lt_succ_self i)]
      cases hp : p i
      · rw [if_neg (by decide), Nat.zero_testBit]; rfl
      · rw [if_pos rfl, Nat.testBit_two_pow_self]; rfl
    · have e : (if p n = true then 2 ^ n else 0).testBit i = false := by
        split
        · exact Nat.testBit_two_pow_of_ne (fun z => h z.symm)
        · exact Nat.zero_testBit i
      rw [e, Bool.or_false]
      by_cases h2 : i < n
      · rw [decide_eq_true h2, decide_eq_true (show i < n + 1 by omega)]
      · rw [decide_eq_false h2, decide_eq_false (show ¬ i < n + 1 by omega)]
def popc (n : Nat) : Nat := cnt (fun i => n.testBit i) 12
theorem popc_bits (p : Nat → Bool) : popc (bits p 12) = cnt p 12 := cnt_congr 12 (fun i hi => by rw [bits_tb, decide_eq_true hi, Bool.true_and])
theorem mx_r {a b : Nat} (h : a < b) : mx a b = b := if_pos h
theorem mx_l {a b : Nat} (h : ¬ a < b) : mx a b = a := if_neg h
abbrev rm_X2_isOver : Room := { frames := 0, cells := 0, slots := 0, locals := 0 }
set_option maxHeartbeats 800000 in
set_option maxRecDepth 20000 in
theorem c_X2_isOver {l : Launch} {g : Geo} {w : WD} {V : Nat → Nat → Nat} {o : Nat} {p a : Nat} (ho : o < 7) (hV : bV V) (hp : p < 84) (ha : a < 2 ^ 31) (hm : V 8 p ≤ V 0 1) : CtI l g yX2_isOver cX2_isOver 3 (some .boolean) rm_X2_isOver [.ref (g_ad g o 0), .int (nI p), .int (nI a)] (wO w o V) (bI (kOver V p a)) (wO w o V) := by
  refine ct_of mi_X2_isOver.2.2.2.2.2 ⟨rfl, rfl⟩ (List.forall_mem_cons.mpr ⟨rfl, List.forall_mem_cons.mpr ⟨rfl, List.forall_mem_cons.mpr ⟨rfl, fun _ h => absurd h List.not_mem_nil⟩⟩⟩) (Nat.le_of_ble_eq_true rfl) (fun P hX => ?_)
  replace hX : Gd l g RX2 cX2_isOver rm_X2_isOver 3 (some .boolean) _ _ P := hX
  show P (wO w o V) 0 [some (.ref (g_ad g o 0)), some (.int (nI p)), some (.int (nI a))] []
  refine pw_iload_n hX rfl dX2_isOver_0 (q := 1) rfl ?_
  refine pw_aload_n hX rfl dX2_isOver_1 (q := 2) rfl ?_
  refine pw_getVF hX ho 12 (by decide) fl_X2_49 rfl dX2_isOver_2 (q := 5) rfl ?_
  refine pw_iload_n hX rfl dX2_isOver_5 (q := 6) rfl ?_
  refine pw_ialdVF hX ho 9 (by decide) (show _ < 84 by omega) dX2_isOver_6 (q := 7) rfl ?_
  refine pw_iconstm hX dX2_isOver_7 (q := 8) rfl ?_
  refine pw_ixor hX dX2_isOver_8 (q := 9) rfl ?_
  refine pw_iand hX dX2_isOver_9 (q := 10) rfl ?_
  refine pw_if_eq hX (tgt := 31) dX2_isOver_10 (q := 13) rfl (by decide) (fun h_10 => ?_) (fun h_10 => ?_)
  · rw [n_andnot ha] at h_10
    refine pw_iconst hX (k := 1) rfl (by decide) dX2_isOver_31 (q := 32) rfl ?_
    refine pw_goto hX (tgt := 36) dX2_isOver_32 (by decide) ?_
    refine pw_ireturn hX dX2_isOver_36 ⟨_, rfl, by first | exact bI_nar _ | decide | rfl⟩ ⟨congrArg (fun z => some (Value.int z)) ?_, ?_⟩
    · first | (rw [show kOver V p a = true from decide_eq_true (Or.inl h_10)]; rfl) | (rw [show kOver V p a = true from decide_eq_true (Or.inr h_28)]; rfl) | (rw [show kOver V p a = false from decide_eq_false (fun z => z.elim h_10 (by omega))]; rfl)
    · rfl
  · rw [n_andnot ha] at h_10
    refine pw_aload_n hX rfl dX2_isOver_13 (q := 14) rfl ?_
    refine pw_getVF hX ho 1 (by decide) fl_X2_15 rfl dX2_isOver_14 (q := 17) rfl ?_
    refine pw_aload_n hX rfl dX2_isOver_17 (q := 18) rfl ?_
    refine pw_getVF hX ho 11 (by decide) fl_X2_46 rfl dX2_isOver_18 (q := 21) rfl ?_
    refine pw_iload_n hX rfl dX2_isOver_21 (q := 22) rfl ?_
    refine pw_ialdVF hX ho 8 (by decide) (show _ < 84 by omega) dX2_isOver_22 (q := 23) rfl ?_
    refine pw_isubN hX (by first | assumption | omega) dX2_isOver_23 (q := 24) rfl ?_
    refine pw_aload_n hX rfl dX2_isOver_24 (q := 25) rfl ?_
    refine pw_getVF hX ho 2 (by decide) fl_X2_18 rfl dX2_isOver_25 (q := 28) rfl ?_
    refine pw_icmpN_lt hX (by first | omega | exact bV_0 hV | exact bV7 hV (by decide) (by omega) | exact bV84 hV (by decide) (by omega) | exact bV12 hV (by omega) | exact bV_1 hV | exact bV_2 hV | (have h9 := bV_1 hV; omega)) (by first | omega | exact bV_0 hV | exact bV7 hV (by decide) (by omega) | exact bV84 hV (by decide) (by omega) | exact bV12 hV (by omega) | exact bV_1 hV | exact bV_2 hV | (have h9 := bV_1 hV; omega)) (tgt := 35) dX2_isOver_28 (q := 31) rfl (by decide) (fun h_28 => ?_) (fun h_28 => ?_)
    · refine pw_iconst hX (k := 0) rfl (by decide) dX2_isOver_35 (q := 36) rfl ?_
      refine pw_ireturn hX dX2_isOver_36 ⟨_, rfl, by first | exact bI_nar _ | decide | rfl⟩ ⟨congrArg (fun z => some (Value.int z)) ?_, ?_⟩
      · first | (rw [show kOver V p a = true from decide_eq_true (Or.inl h_10)]; rfl) | (rw [show kOver V p a = true from decide_eq_true (Or.inr h_28)]; rfl) | (rw [show kOver V p a = false from decide_eq_false (fun z => z.elim h_10 (by omega))]; rfl)
      · rfl
    · refine pw_iconst hX (k := 1) rfl (by decide) dX2_isOver_31 (q := 32) rfl ?_
      refine pw_goto hX (tgt := 36) dX2_isOver_32 (by decide) ?_
      refine pw_ireturn hX dX2_isOver_36 ⟨_, rfl, by first | exact bI_nar _ | decide | rfl⟩ ⟨congrArg (fun z => some (Value.int z)) ?_, ?_⟩
      · first | (rw [show kOver V p a = true from decide_eq_true (Or.inl h_10)]; rfl) | (rw [show kOver V p a = true from decide_eq_true (Or.inr h_28)]; rfl) | (rw [show kOver V p a = false from decide_eq_false (fun z => z.elim h_10 (by omega))]; rfl)
      · rfl
abbrev rm_X2_pass : Room := { frames := 1, cells := 0, slots := 0, locals := 22 }
set_option maxHeartbeats 800000 in
set_option maxRecDepth 20000 in
theorem c_X2_pass {l : Launch} {g : Geo} {w : WD} {V : Nat → Nat → Nat} {o : Nat} {k : Nat} (ho : o < 7) (hP : bP V) (hk : V 0 1 + k < 2 ^ 30) : CtI l g yX2_pass cX2_pass 7 (some .int) rm_X2_pass [.ref (g_ad g o 0), .int (nI k)] (wO w o V) (nI (kPass V k).2) (wO w o (kPass V k).1) := by
  refine ct_of mi_X2_pass.2.2.2.2.2 ⟨rfl, rfl⟩ (List.forall_mem_cons.mpr ⟨rfl, List.forall_mem_cons.mpr ⟨rfl, fun _ h => absurd h List.not_mem_nil⟩⟩) (Nat.le_of_ble_eq_true rfl) (fun P hX => ?_)
  replace hX : Gd l g RX2 cX2_pass rm_X2_pass 7 (some .int) _ _ P := hX
  show P (wO w o V) 0 [some (.ref (g_ad g o 0)), some (.int (nI k)), none, none, none, none, none] []
  have hV1 := bP_t hP hk
  have h7 := hP.1.2.2.2.1
  have hap : (kPres (vU V 0 1 (V 0 1 + k))) < 2 ^ 31 := Nat.lt_of_lt_of_le (bits_lt _ _) (Nat.pow_le_pow_right (by decide) (by show V 0 0 ≤ 31; omega))
  refine pw_aload_n hX rfl dX2_pass_0 (q := 1) rfl ?_
  refine pw_dup hX rfl dX2_pass_1 (q := 2) rfl ?_
  refine pw_getVF hX ho 1 (by decide) fl_X2_15 rfl dX2_pass_2 (q := 5) rfl ?_
  refine pw_iload_n hX rfl dX2_pass_5 (q := 6) rfl ?_
  refine pw_iaddN hX dX2_pass_6 (q := 7) rfl ?_
  refine pw_putVF hX ho 1 (by decide) fl_X2_15 dX2_pass_7 (q := 10) rfl ?_
  refine pw_iconst hX (k := 0) rfl (by decide) dX2_pass_10 (q := 11) rfl ?_
  refine pw_istore_n hX (by decide) dX2_pass_11 (q := 12) rfl ?_
  refine pw_aload_n hX rfl dX2_pass_12 (q := 13) rfl ?_
  refine pw_cvI0 hX dX2_pass_13 (q := 16) rfl mi_X2_present ml_X2_158 (rcV ho) ⟨rfl, rfl, by decide, by decide⟩ rfl (Nat.le_of_ble_eq_true rfl) (c_X2_present ho hV1.1) ?_
  refine pw_istore_n hX (by decide) dX2_pass_16 (q := 17) rfl ?_
  refine pw_iconst hX (k := 0) rfl (by decide) dX2_pass_17 (q := 18) rfl ?_
  refine pw_istore hX (by decide) dX2_pass_18 (q := 20) rfl ?_
  suffices L : ∀ v, v ≤ V 0 0 → P (wO w o (kPv (vU V 0 1 (V 0 1 + k)) (kPres (vU V 0 1 (V 0 1 + k))) v).1) 20 [some (.ref (g_ad g o 0)), some (.int (nI k)), some (.int (nI (kPv (vU V 0 1 (V 0 1 + k)) (kPres (vU V 0 1 (V 0 1 + k))) v).2)), some (.int (nI (kPres (vU V 0 1 (V 0 1 + k))))), some (.int (nI v)), none, none] [] by exact L 0 (Nat.zero_le _)
  refine loopUp (fun v hv ihv => ?_)
  have hVv := bP_Pv hV1 (a := (kPres (vU V 0 1 (V 0 1 + k)))) v (by omega)
  refine pw_iload hX rfl dX2_pass_20 (q := 22) rfl ?_
  refine pw_aload_n hX rfl dX2_pass_22 (q := 23) rfl ?_
  refine pw_getVF hX ho 0 (by decide) fl_X2_9 rfl dX2_pass_23 (q := 26) rfl ?_
  rw [show (kPv (vU V 0 1 (V 0 1 + k)) (kPres (vU V 0 1 (V 0 1 + k))) v).1 0 0 = V 0 0 from congrFun hVv.2 0]
  refine pw_icmpN_ge hX (by first | omega | exact bV_0 hV1.1) (by first | omega | exact bV_0 hV1.1) (tgt := 114) dX2_pass_26 (q := 29) rfl (by decide) (fun h_26 => ?_) (fun h_26 => ?_)
  · have e95 : v = V 0 0 := by omega
    subst e95
    refine pw_iload_n hX rfl dX2_pass_114 (q := 115) rfl ?_
    refine pw_ireturn hX dX2_pass_115 ⟨_, rfl, rfl⟩ ⟨congrArg (fun z => some (Value.int z)) ?_, ?_⟩
    · rfl
    · rfl
  · refine pw_iconst hX (k := 0) rfl (by decide) dX2_pass_29 (q := 30) rfl ?_
    refine pw_istore hX (by decide) dX2_pass_30 (q := 32) rfl ?_
    suffices L : ∀ t, t ≤ 12 → P (wO w o (kPt (kPv (vU V 0 1 (V 0 1 + k)) (kPres (vU V 0 1 (V 0 1 + k))) v).1 v (kPres (vU V 0 1 (V 0 1 + k))) t).1) 32 [some (.ref (g_ad g o 0)), some (.int (nI k)), some (.int (nI ((kPv (vU V 0 1 (V 0 1 + k)) (kPres (vU V 0 1 (V 0 1 + k))) v).2 + (kPt (kPv (vU V 0 1 (V 0 1 + k)) (kPres (vU V 0 1 (V 0 1 + k))) v).1 v (kPres (vU V 0 1 (V 0 1 + k))) t).2))), some (.int (nI (kPres (vU V 0 1 (V 0 1 + k))))), some (.int (nI v)), some (.int (nI t)), none] [] by exact L 0 (Nat.zero_le _)
    refine loopUp (fun t ht iht => ?_)
    have hVt := bP_Pt hVv.1 (a := (kPres (vU V 0 1 (V 0 1 + k)))) (v := v) (by omega) t ht
    refine pw_iload hX rfl dX2_pass_32 (q := 34) rfl ?_
    refine pw_bipush hX (k := 12) (by decide) dX2_pass_34 (q := 36) rfl ?_
    refine pw_icmpN_ge hX (by first | omega | exact bV_0 hV1.1) (by first | omega | exact bV_0 hV1.1) (tgt := 108) dX2_pass_36 (q := 39) rfl (by decide) (fun h_36 => ?_) (fun h_36 => ?_)
    · refine pw_iinc hX rfl (by decide) (inc1 _) dX2_pass_108 (q := 111) rfl ?_
      refine pw_goto hX (tgt := 20) dX2_pass_111 (by decide) ?_
      have e32 : t = 12 := by omega
      subst e32
      exact pw_fg hX (lv' := [_, _, _, _, _, none, none]) (by repeat first | exact lle_nil | refine lle_cons ?_ | refine lle_none ?_) (pw_eq (congrArg (wO w o) (by simp only [kPv_s, kPr])) (by simp only [kPv_s, kPr, lst, inc1]) rfl (ihv (by omega)))
    · refine pw_iload hX rfl dX2_pass_39 (q := 41) rfl ?_
      refine pw_iload hX rfl dX2_pass_41 (q := 43) rfl ?_
      refine pw_cnI2 hX dX2_pass_43 (q := 46) rfl mi_X3_place mn_X2_88 ⟨rfl, rfl, by decide, by decide⟩ rfl (Nat.le_of_ble_eq_true rfl) (c_X3_place) ?_
      refine pw_istore hX (by decide) dX2_pass_46 (q := 48) rfl ?_
      refine pw_aload_n hX rfl dX2_pass_48 (q := 49) rfl ?_
      refine pw_iload hX rfl dX2_pass_49 (q := 51) rfl ?_
      refine pw_cvI1 hX dX2_pass_51 (q := 54) rfl mi_X2_isTomb ml_X2_95 (rcV ho) ⟨rfl, rfl, by decide, by decide⟩ rfl (Nat.le_of_ble_eq_true rfl) (c_X2_isTomb ho hVt.1.1 (by omega)) ?_
      refine pw_ifB_eq hX (tgt := 102) dX2_pass_54 (q := 57) rfl (by decide) (fun h_54 => ?_) (fun h_54 => ?_)
      · refine pw_iinc hX rfl (by decide) (inc1 _) dX2_pass_102 (q := 105) rfl ?_
        refine pw_goto hX (tgt := 32) dX2_pass_105 (by decide) ?_
        have hpb : kPb (kPt (kPv (vU V 0 1 (V 0 1 + k)) (kPres (vU V 0 1 (V 0 1 + k))) v).1 v (kPres (vU V 0 1 (V 0 1 + k))) t).1 (v * 12 + t) (kPres (vU V 0 1 (V 0 1 + k))) = false := by rw [kPb, h_54]; rfl
        exact pw_fg hX (lv' := [_, _, _, _, _, _, none]) (by repeat first | exact lle_nil | refine lle_cons ?_ | refine lle_none ?_) (pw_eq (congrArg (wO w o) (by rw [kPt_s, kPs, hpb]; rfl)) (by rw [kPt_s, hpb]; rfl) rfl (iht (by omega)))
      · refine pw_aload_n hX rfl dX2_pass_57 (q := 58) rfl ?_
        refine pw_iload hX rfl dX2_pass_58 (q := 60) rfl ?_
        refine pw_iload_n hX rfl dX2_pass_60 (q := 61) rfl ?_
        refine pw_cvI2 hX dX2_pass_61 (q := 64) rfl mi_X2_isOver ml_X2_162 (rcV ho) ⟨rfl, rfl, by decide, by decide⟩ rfl (Nat.le_of_ble_eq_true rfl) (c_X2_isOver ho hVt.1.1 (by omega) hap (hVt.1.2 _ (by omega))) ?_
        refine pw_ifB_eq hX (tgt := 102) dX2_pass_64 (q := 67) rfl (by decide) (fun h_64 => ?_) (fun h_64 => ?_)
        · refine pw_iinc hX rfl (by decide) (inc1 _) dX2_pass_102 (q := 105) rfl ?_
          refine pw_goto hX (tgt := 32) dX2_pass_105 (by decide) ?_
          have hpb : kPb (kPt (kPv (vU V 0 1 (V 0 1 + k)) (kPres (vU V 0 1 (V 0 1 + k))) v).1 v (kPres (vU V 0 1 (V 0 1 + k))) t).1 (v * 12 + t) (kPres (vU V 0 1 (V 0 1 + k))) = false := by rw [kPb, h_54, h_64]; rfl
          exact pw_fg hX (lv' := [_, _, _, _, _, _, none]) (by repeat first | exact lle_nil | refine lle_cons ?_ | refine lle_none ?_) (pw_eq (congrArg (wO w o) (by rw [kPt_s, kPs, hpb]; rfl)) (by rw [kPt_s, hpb]; rfl) rfl (iht (by omega)))
        · refine pw_aload_n hX rfl dX2_pass_67 (q := 68) rfl ?_
          refine pw_getVF hX ho 13 (by decide) fl_X2_52 rfl dX2_pass_68 (q := 71) rfl ?_
          refine pw_iload hX rfl dX2_pass_71 (q := 73) rfl ?_
          refine pw_aload_n hX rfl dX2_pass_73 (q := 74) rfl ?_
          refine pw_getVF hX ho 13 (by decide) fl_X2_52 rfl dX2_pass_74 (q := 77) rfl ?_
          refine pw_iload hX rfl dX2_pass_77 (q := 79) rfl ?_
          refine pw_ialdVF hX ho 10 (by decide) (show _ < 84 by omega) dX2_pass_79 (q := 80) rfl ?_
          refine pw_aload_n hX rfl dX2_pass_80 (q := 81) rfl ?_
          refine pw_getVF hX ho 8 (by decide) fl_X2_37 rfl dX2_pass_81 (q := 84) rfl ?_
          refine pw_iload hX rfl dX2_pass_84 (q := 86) rfl ?_
          refine pw_ialdVF hX ho 5 (by decide) (show _ < 84 by omega) dX2_pass_86 (q := 87) rfl ?_
          refine pw_max hX dX2_pass_87 (q := 90) rfl ml_X2_123 tw_max_s tw_max_i tw_max_c (by decide) (Nat.le_of_ble_eq_true rfl) ?_
          rw [n_max (bV84 hVt.1.1 (by decide) (by omega)) (bV84 hVt.1.1 (by decide) (by omega))]
          refine pw_iastVF hX ho 10 (by decide) (show _ < 84 by omega) dX2_pass_90 (q := 91) rfl ?_
          refine pw_aload_n hX rfl dX2_pass_91 (q := 92) rfl ?_
          refine pw_getVF hX ho 8 (by decide) fl_X2_37 rfl dX2_pass_92 (q := 95) rfl ?_
          refine pw_iload hX rfl dX2_pass_95 (q := 97) rfl ?_
          refine pw_iconst hX (k := 0) rfl (by decide) dX2_pass_97 (q := 98) rfl ?_
          refine pw_iastVF hX ho 5 (by decide) (show _ < 84 by omega) dX2_pass_98 (q := 99) rfl ?_
          refine pw_iinc hX rfl (by decide) (inc1 _) dX2_pass_99 (q := 102) rfl ?_
          refine pw_iinc hX rfl (by decide) (inc1 _) dX2_pass_102 (q := 105) rfl ?_
          refine pw_goto hX (tgt := 32) dX2_pass_105 (by decide) ?_
          have hpb : kPb (kPt (kPv (vU V 0 1 (V 0 1 + k)) (kPres (vU V 0 1 (V 0 1 + k))) v).1 v (kPres (vU V 0 1 (V 0 1 + k))) t).1 (v * 12 + t) (kPres (vU V 0 1 (V 0 1 + k))) = true := by rw [kPb, h_54, h_64]; rfl
          exact pw_fg hX (lv' := [_, _, _, _, _, _, none]) (by repeat first | exact lle_nil | refine lle_cons ?_ | refine lle_none ?_) (pw_eq (congrArg (wO w o) (by rw [kPt_s, kPs, hpb]; rfl)) (by rw [kPt_s, hpb, Nat.add_assoc]; rfl) rfl (iht (by omega)))
abbrev rm_X2_letGoBy : Room := { frames := 2, cells := 0, slots := 0, locals := 48 }
set_option maxHeartbeats 800000 in
set_option maxRecDepth 20000 in
theorem c_X2_letGoBy {l : Launch} {g : Geo} {w : WD} {V : Nat → Nat → Nat} {o : Nat} {v : Int32} (ho : o < 7) (hP : bP V) : CtI l g yX2_letGoBy cX2_letGoBy 2 (some .int) rm_X2_letGoBy [.ref (g_ad g o 0), .int v] (wO w o V) ((kTick V v).2) (wO w o (kTick V v).1) := by
  refine ct_of mi_X2_letGoBy.2.2.2.2.2 ⟨rfl, rfl⟩ (List.forall_mem_cons.mpr ⟨rfl, List.forall_mem_cons.mpr ⟨rfl, fun _ h => absurd h List.not_mem_nil⟩⟩) (Nat.le_of_ble_eq_true rfl) (fun P hX => ?_)
  replace hX : Gd l g RX2 cX2_letGoBy rm_X2_letGoBy 2 (some .int) _ _ P := hX
  show P (wO w o V) 0 [some (.ref (g_ad g o 0)), some (.int v)] []
  have h1V := hP.1.2.2.2.2.1
  refine pw_iload_n hX rfl dX2_letGoBy_0 (q := 1) rfl ?_
  refine pw_iconst hX (k := 1) rfl (by decide) dX2_letGoBy_1 (q := 2) rfl ?_
  refine pw_icmp_lt hX (tgt := 11) dX2_letGoBy_2 (q := 5) rfl (by decide) (fun h_2 => ?_) (fun h_2 => ?_)
  · have hz : inN 1 60 v = false := inN_lo (by decide) h_2
    refine pw_ldc hX cn_X2_73 dX2_letGoBy_11 (q := 13) rfl ?_
    refine pw_ireturn hX dX2_letGoBy_13 ⟨_, rfl, rfl⟩ ⟨congrArg (fun z => some (Value.int z)) ?_, ?_⟩
    · rw [kTick, if_neg (by rw [hz]; decide)]
    · rw [kTick, if_neg (by rw [hz]; decide)]
  · refine pw_iload_n hX rfl dX2_letGoBy_5 (q := 6) rfl ?_
    refine pw_bipush hX (k := 60) (by decide) dX2_letGoBy_6 (q := 8) rfl ?_
    refine pw_icmp_le hX (tgt := 14) dX2_letGoBy_8 (q := 11) rfl (by decide) (fun h_8 => ?_) (fun h_8 => ?_)
    · have hc := inN_ok (lo := 1) (hi := 60) (by decide) (by decide) h_2 (Int32.not_lt.mpr h_8)
      obtain ⟨x, hx1, hx2, rfl⟩ := inN_of (by decide) hc
      have hxx : ix (nI x) = x := ix_nI (by omega)
      refine pw_aload_n hX rfl dX2_letGoBy_14 (q := 15) rfl ?_
      refine pw_getVF hX ho 1 (by decide) fl_X2_15 rfl dX2_letGoBy_15 (q := 18) rfl ?_
      refine pw_iload_n hX rfl dX2_letGoBy_18 (q := 19) rfl ?_
      refine pw_iaddN hX dX2_letGoBy_19 (q := 20) rfl ?_
      refine pw_ldc hX cn_X2_154 dX2_letGoBy_20 (q := 22) rfl ?_
      rw [show (100000 : Int32) = nI 100000 by decide]
      refine pw_icmpN_le hX (by first | omega | exact bV_1 hP.1) (by first | omega | exact bV_1 hP.1) (tgt := 28) dX2_letGoBy_22 (q := 25) rfl (by decide) (fun h_22 => ?_) (fun h_22 => ?_)
      · refine pw_aload_n hX rfl dX2_letGoBy_28 (q := 29) rfl ?_
        refine pw_iload_n hX rfl dX2_letGoBy_29 (q := 30) rfl ?_
        refine pw_cvI1 hX dX2_letGoBy_30 (q := 33) rfl mi_X2_pass ml_X2_155 (rcV ho) ⟨rfl, rfl, by decide, by decide⟩ rfl (Nat.le_of_ble_eq_true rfl) (c_X2_pass ho hP (by omega)) ?_
        refine pw_ireturn hX dX2_letGoBy_33 ⟨_, rfl, rfl⟩ ⟨congrArg (fun z => some (Value.int z)) ?_, ?_⟩
        · rw [kTick, if_pos hc, hxx, if_neg (by omega)]
        · rw [kTick, if_pos hc, hxx, if_neg (by omega)]
      · refine pw_ldc hX cn_X2_72 dX2_letGoBy_25 (q := 27) rfl ?_
        refine pw_ireturn hX dX2_letGoBy_27 ⟨_, rfl, rfl⟩ ⟨congrArg (fun z => some (Value.int z)) ?_, ?_⟩
        · rw [kTick, if_pos hc, hxx, if_pos h_22]
        · rw [kTick, if_pos hc, hxx, if_pos h_22]
    · have hz : inN 1 60 v = false := inN_hi (by decide) (Int32.not_le.mp h_8)
      refine pw_ldc hX cn_X2_73 dX2_letGoBy_11 (q := 13) rfl ?_
      refine pw_ireturn hX dX2_letGoBy_13 ⟨_, rfl, rfl⟩ ⟨congrArg (fun z => some (Value.int z)) ?_, ?_⟩
      · rw [kTick, if_neg (by rw [hz]; decide)]
      · rw [kTick, if_neg (by rw [hz]; decide)]
def us (x y : Int32) : Int32 := (x.toUInt32 >>> (y.toUInt32 &&& Int32.toUInt32 31)).toInt32
def pc1 (x : Int32) : Int32 := x - (us x (nI 1) &&& 1431655765)
def pc2 (x : Int32) : Int32 := (x &&& 858993459) + (us x (nI 2) &&& 858993459)
def pc3 (x : Int32) : Int32 := (x + us x (nI 4)) &&& 252645135
def pc4 (x : Int32) : Int32 := x + us x (nI 8)
def pc5 (x : Int32) : Int32 := (x + us x (nI 16)) &&& nI 63
def pcE (x : Int32) : Int32 := pc5 (pc4 (pc3 (pc2 (pc1 x))))
theorem pc_all : (List.range 4096).all (fun n => decide (pcE (nI n) = nI (popc n))) = true := by decide +kernel
theorem pc_ok {n : Nat} (h : n < 4096) : pcE (nI n) = nI (popc n) := of_decide_eq_true (List.all_eq_true.mp pc_all n (List.mem_range.mpr h))
abbrev rm_J6_bitCount_0f7a4 : Room := { frames := 0, cells := 0, slots := 0, locals := 0 }
set_option maxHeartbeats 800000 in
set_option maxRecDepth 20000 in
theorem c_J6_bitCount_0f7a4 {l : Launch} {g : Geo} {w : WD} {n : Nat} (hn : n < 4096) : CtI l g yJ6_bitCount_0f7a4 cJ6_bitCount_0f7a4 1 (some .int) rm_J6_bitCount_0f7a4 [.int (nI n)] (w) (nI (popc n)) (w) := by
  refine ct_of mi_J6_bitCount_0f7a4.2.2.2.2 ⟨rfl, rfl⟩ (List.forall_mem_cons.mpr ⟨rfl, fun _ h => absurd h List.not_mem_nil⟩) (Nat.le_of_ble_eq_true rfl) (fun P hX => ?_)
  replace hX : Gd l g RJ6 cJ6_bitCount_0f7a4 rm_J6_bitCount_0f7a4 1 (some .int) _ _ P := hX
  show P (w) 0 [some (.int (nI n))] []
  refine pw_iload_n hX rfl dJ6_bitCount_0f7a4_0 (q := 1) rfl ?_
  refine pw_iload_n hX rfl dJ6_bitCount_0f7a4_1 (q := 2) rfl ?_
  refine pw_iconst hX (k := 1) rfl (by decide) dJ6_bitCount_0f7a4_2 (q := 3) rfl ?_
  refine pw_iushr hX dJ6_bitCount_0f7a4_3 (q := 4) rfl ?_
  refine pw_ldcw hX cn_J6_265 dJ6_bitCount_0f7a4_4 (q := 7) rfl ?_
  refine pw_iand hX dJ6_bitCount_0f7a4_7 (q := 8) rfl ?_
  refine pw_isub hX dJ6_bitCount_0f7a4_8 (q := 9) rfl ?_
  refine pw_istore_n hX (by decide) dJ6_bitCount_0f7a4_9 (q := 10) rfl ?_
  refine pw_iload_n hX rfl dJ6_bitCount_0f7a4_10 (q := 11) rfl ?_
  refine pw_ldcw hX cn_J6_266 dJ6_bitCount_0f7a4_11 (q := 14) rfl ?_
  refine pw_iand hX dJ6_bitCount_0f7a4_14 (q := 15) rfl ?_
  refine pw_iload_n hX rfl dJ6_bitCount_0f7a4_15 (q := 16) rfl ?_
  refine pw_iconst hX (k := 2) rfl (by decide) dJ6_bitCount_0f7a4_16 (q := 17) rfl ?_
  refine pw_iushr hX dJ6_bitCount_0f7a4_17 (q := 18) rfl ?_
  refine pw_ldcw hX cn_J6_266 dJ6_bitCount_0f7a4_18 (q := 21) rfl ?_
  refine pw_iand hX dJ6_bitCount_0f7a4_21 (q := 22) rfl ?_
  refine pw_iadd hX dJ6_bitCount_0f7a4_22 (q := 23) rfl ?_
  refine pw_istore_n hX (by decide) dJ6_bitCount_0f7a4_23 (q := 24) rfl ?_
  refine pw_iload_n hX rfl dJ6_bitCount_0f7a4_24 (q := 25) rfl ?_
  refine pw_iload_n hX rfl dJ6_bitCount_0f7a4_25 (q := 26) rfl ?_
  refine pw_iconst hX (k := 4) rfl (by decide) dJ6_bitCount_0f7a4_26 (q := 27) rfl ?_
  refine pw_iushr hX dJ6_bitCount_0f7a4_27 (q := 28) rfl ?_
  refine pw_iadd hX dJ6_bitCount_0f7a4_28 (q := 29) rfl ?_
  refine pw_ldcw hX cn_J6_267 dJ6_bitCount_0f7a4_29 (q := 32) rfl ?_
  refine pw_iand hX dJ6_bitCount_0f7a4_32 (q := 33) rfl ?_
  refine pw_istore_n hX (by decide) dJ6_bitCount_0f7a4_33 (q := 34) rfl ?_
  refine pw_iload_n hX rfl dJ6_bitCount_0f7a4_34 (q := 35) rfl ?_
  refine pw_iload_n hX rfl dJ6_bitCount_0f7a4_35 (q := 36) rfl ?_
  refine pw_bipush hX (k := 8) (by decide) dJ6_bitCount_0f7a4_36 (q := 38) rfl ?_
  refine pw_iushr hX dJ6_bitCount_0f7a4_38 (q := 39) rfl ?_
  refine pw_iadd hX dJ6_bitCount_0f7a4_39 (q := 40) rfl ?_
  refine pw_istore_n hX (by decide) dJ6_bitCount_0f7a4_40 (q := 41) rfl ?_
  refine pw_iload_n hX rfl dJ6_bitCount_0f7a4_41 (q := 42) rfl ?_
  refine pw_iload_n hX rfl dJ6_bitCount_0f7a4_42 (q := 43) rfl ?_
  refine pw_bipush hX (k := 16) (by decide) dJ6_bitCount_0f7a4_43 (q := 45) rfl ?_
  refine pw_iushr hX dJ6_bitCount_0f7a4_45 (q := 46) rfl ?_
  refine pw_iadd hX dJ6_bitCount_0f7a4_46 (q := 47) rfl ?_
  refine pw_istore_n hX (by decide) dJ6_bitCount_0f7a4_47 (q := 48) rfl ?_
  refine pw_iload_n hX rfl dJ6_bitCount_0f7a4_48 (q := 49) rfl ?_
  refine pw_bipush hX (k := 63) (by decide) dJ6_bitCount_0f7a4_49 (q := 51) rfl ?_
  refine pw_iand hX dJ6_bitCount_0f7a4_51 (q := 52) rfl ?_
  refine pw_ireturn hX dJ6_bitCount_0f7a4_52 ⟨_, rfl, rfl⟩ ⟨congrArg (fun z => some (Value.int z)) ?_, ?_⟩
  · exact pc_ok hn
  · rfl
abbrev rm_X2_allRumors : Room := { frames := 2, cells := 0, slots := 0, locals := 44 }
set_option maxHeartbeats 800000 in
set_option maxRecDepth 20000 in
theorem c_X2_allRumors {l : Launch} {g : Geo} {w : WD} {V : Nat → Nat → Nat} {o : Nat} (ho : o < 7) (hV : bV V) : CtI l g yX2_allRumors cX2_allRumors 3 (some .int) rm_X2_allRumors [.ref (g_ad g o 0)] (wO w o V) (nI (sm (fun v => cnt (fun t => kRum V (v * 12 + t)) 12) (V 0 0))) (wO w o V) := by
  refine ct_of mi_X2_allRumors.2.2.2.2.2 ⟨rfl, rfl⟩ (List.forall_mem_cons.mpr ⟨rfl, fun _ h => absurd h List.not_mem_nil⟩) (Nat.le_of_ble_eq_true rfl) (fun P hX => ?_)
  replace hX : Gd l g RX2 cX2_allRumors rm_X2_allRumors 3 (some .int) _ _ P := hX
  show P (wO w o V) 0 [some (.ref (g_ad g o 0)), none, none] []
  have h7 := hV.2.2.2.1
  refine pw_iconst hX (k := 0) rfl (by decide) dX2_allRumors_0 (q := 1) rfl ?_
  refine pw_istore_n hX (by decide) dX2_allRumors_1 (q := 2) rfl ?_
  refine pw_iconst hX (k := 0) rfl (by decide) dX2_allRumors_2 (q := 3) rfl ?_
  refine pw_istore_n hX (by decide) dX2_allRumors_3 (q := 4) rfl ?_
  suffices L : ∀ v, v ≤ V 0 0 → P (wO w o V) 4 [some (.ref (g_ad g o 0)), some (.int (nI (sm (fun v => cnt (fun t => kRum V (v * 12 + t)) 12) v))), some (.int (nI v))] [] by exact L 0 (Nat.zero_le _)
  refine loopUp (fun v hv ih => ?_)
  refine pw_iload_n hX rfl dX2_allRumors_4 (q := 5) rfl ?_
  refine pw_aload_n hX rfl dX2_allRumors_5 (q := 6) rfl ?_
  refine pw_getVF hX ho 0 (by decide) fl_X2_9 rfl dX2_allRumors_6 (q := 9) rfl ?_
  refine pw_icmpN_ge hX (by first | omega | exact bV_0 hV | exact bV7 hV (by decide) (by omega) | exact bV84 hV (by decide) (by omega) | exact bV12 hV (by omega) | exact bV_1 hV | exact bV_2 hV) (by first | omega | exact bV_0 hV | exact bV7 hV (by decide) (by omega) | exact bV84 hV (by decide) (by omega) | exact bV12 hV (by omega) | exact bV_1 hV | exact bV_2 hV) (tgt := 29) dX2_allRumors_9 (q := 12) rfl (by decide) (fun h_9 => ?_) (fun h_9 => ?_)
  · refine pw_iload_n hX rfl dX2_allRumors_29 (q := 30) rfl ?_
    refine pw_ireturn hX dX2_allRumors_30 ⟨_, rfl, rfl⟩ ⟨congrArg (fun z => some (Value.int z)) ?_, ?_⟩
    · rw [show v = V 0 0 by omega]
    · rfl
  · refine pw_iload_n hX rfl dX2_allRumors_12 (q := 13) rfl ?_
    refine pw_aload_n hX rfl dX2_allRumors_13 (q := 14) rfl ?_
    refine pw_iload_n hX rfl dX2_allRumors_14 (q := 15) rfl ?_
    refine pw_cvI1 hX dX2_allRumors_15 (q := 18) rfl mi_X2_rumorTopics ml_X2_102 (rcV ho) ⟨rfl, rfl, by decide, by decide⟩ rfl (Nat.le_of_ble_eq_true rfl) (c_X2_rumorTopics ho hV (by omega)) ?_
    refine pw_csI1 hX dX2_allRumors_18 (q := 21) rfl mi_J6_bitCount_0f7a4 ml_X2_105 ⟨rfl, rfl, by decide, by decide⟩ rfl (Nat.le_of_ble_eq_true rfl) (c_J6_bitCount_0f7a4 (bits_lt _ 12)) ?_
    rw [popc_bits]
    refine pw_iaddN hX dX2_allRumors_21 (q := 22) rfl ?_
    refine pw_istore_n hX (by decide) dX2_allRumors_22 (q := 23) rfl ?_
    refine pw_iinc hX rfl (by decide) (inc1 _) dX2_allRumors_23 (q := 26) rfl ?_
    refine pw_goto hX (tgt := 4) dX2_allRumors_26 (by decide) ?_
    exact pw_eq rfl rfl rfl (ih (by omega))
abbrev rm_X2_allTombs : Room := { frames := 2, cells := 0, slots := 0, locals := 44 }
set_option maxHeartbeats 800000 in
set_option maxRecDepth 20000 in
theorem c_X2_allTombs {l : Launch} {g : Geo} {w : WD} {V : Nat → Nat → Nat} {o : Nat} (ho : o < 7) (hV : bV V) : CtI l g yX2_allTombs cX2_allTombs 3 (some .int) rm_X2_allTombs [.ref (g_ad g o 0)] (wO w o V) (nI (sm (fun v => cnt (fun t => kTmb V (v * 12 + t)) 12) (V 0 0))) (wO w o V) := by
  refine ct_of mi_X2_allTombs.2.2.2.2.2 ⟨rfl, rfl⟩ (List.forall_mem_cons.mpr ⟨rfl, fun _ h => absurd h List.not_mem_nil⟩) (Nat.le_of_ble_eq_true rfl) (fun P hX => ?_)
  replace hX : Gd l g RX2 cX2_allTombs rm_X2_allTombs 3 (some .int) _ _ P := hX
  show P (wO w o V) 0 [some (.ref (g_ad g o 0)), none, none] []
  have h7 := hV.2.2.2.1
  refine pw_iconst hX (k := 0) rfl (by decide) dX2_allTombs_0 (q := 1) rfl ?_
  refine pw_istore_n hX (by decide) dX2_allTombs_1 (q := 2) rfl ?_
  refine pw_iconst hX (k := 0) rfl (by decide) dX2_allTombs_2 (q := 3) rfl ?_
  refine pw_istore_n hX (by decide) dX2_allTombs_3 (q := 4) rfl ?_
  suffices L : ∀ v, v ≤ V 0 0 → P (wO w o V) 4 [some (.ref (g_ad g o 0)), some (.int (nI (sm (fun v => cnt (fun t => kTmb V (v * 12 + t)) 12) v))), some (.int (nI v))] [] by exact L 0 (Nat.zero_le _)
  refine loopUp (fun v hv ih => ?_)
  refine pw_iload_n hX rfl dX2_allTombs_4 (q := 5) rfl ?_
  refine pw_aload_n hX rfl dX2_allTombs_5 (q := 6) rfl ?_
  refine pw_getVF hX ho 0 (by decide) fl_X2_9 rfl dX2_allTombs_6 (q := 9) rfl ?_
  refine pw_icmpN_ge hX (by first | omega | exact bV_0 hV | exact bV7 hV (by decide) (by omega) | exact bV84 hV (by decide) (by omega) | exact bV12 hV (by omega) | exact bV_1 hV | exact bV_2 hV) (by first | omega | exact bV_0 hV | exact bV7 hV (by decide) (by omega) | exact bV84 hV (by decide) (by omega) | exact bV12 hV (by omega) | exact bV_1 hV | exact bV_2 hV) (tgt := 29) dX2_allTombs_9 (q := 12) rfl (by decide) (fun h_9 => ?_) (fun h_9 => ?_)
  · refine pw_iload_n hX rfl dX2_allTombs_29 (q := 30) rfl ?_
    refine pw_ireturn hX dX2_allTombs_30 ⟨_, rfl, rfl⟩ ⟨congrArg (fun z => some (Value.int z)) ?_, ?_⟩
    · rw [show v = V 0 0 by omega]
    · rfl
  · refine pw_iload_n hX rfl dX2_allTombs_12 (q := 13) rfl ?_
    refine pw_aload_n hX rfl dX2_allTombs_13 (q := 14) rfl ?_
    refine pw_iload_n hX rfl dX2_allTombs_14 (q := 15) rfl ?_
    refine pw_cvI1 hX dX2_allTombs_15 (q := 18) rfl mi_X2_tombTopics ml_X2_110 (rcV ho) ⟨rfl, rfl, by decide, by decide⟩ rfl (Nat.le_of_ble_eq_true rfl) (c_X2_tombTopics ho hV (by omega)) ?_
    refine pw_csI1 hX dX2_allTombs_18 (q := 21) rfl mi_J6_bitCount_0f7a4 ml_X2_105 ⟨rfl, rfl, by decide, by decide⟩ rfl (Nat.le_of_ble_eq_true rfl) (c_J6_bitCount_0f7a4 (bits_lt _ 12)) ?_
    rw [popc_bits]
    refine pw_iaddN hX dX2_allTombs_21 (q := 22) rfl ?_
    refine pw_istore_n hX (by decide) dX2_allTombs_22 (q := 23) rfl ?_
    refine pw_iinc hX rfl (by decide) (inc1 _) dX2_allTombs_23 (q := 26) rfl ?_
    refine pw_goto hX (tgt := 4) dX2_allTombs_26 (by decide) ?_
    exact pw_eq rfl rfl rfl (ih (by omega))
abbrev rm_X2_allDead : Room := { frames := 3, cells := 0, slots := 0, locals := 67 }
set_option maxHeartbeats 800000 in
set_option maxRecDepth 20000 in
theorem c_X2_allDead {l : Launch} {g : Geo} {w : WD} {V : Nat → Nat → Nat} {o : Nat} (ho : o < 7) (hV : bV V) : CtI l g yX2_allDead cX2_allDead 3 (some .int) rm_X2_allDead [.ref (g_ad g o 0)] (wO w o V) (nI (sm (fun v => cnt (fun t => kDead V v t) 12) (V 0 0))) (wO w o V) := by
  refine ct_of mi_X2_allDead.2.2.2.2.2 ⟨rfl, rfl⟩ (List.forall_mem_cons.mpr ⟨rfl, fun _ h => absurd h List.not_mem_nil⟩) (Nat.le_of_ble_eq_true rfl) (fun P hX => ?_)
  replace hX : Gd l g RX2 cX2_allDead rm_X2_allDead 3 (some .int) _ _ P := hX
  show P (wO w o V) 0 [some (.ref (g_ad g o 0)), none, none] []
  have h7 := hV.2.2.2.1
  refine pw_iconst hX (k := 0) rfl (by decide) dX2_allDead_0 (q := 1) rfl ?_
  refine pw_istore_n hX (by decide) dX2_allDead_1 (q := 2) rfl ?_
  refine pw_iconst hX (k := 0) rfl (by decide) dX2_allDead_2 (q := 3) rfl ?_
  refine pw_istore_n hX (by decide) dX2_allDead_3 (q := 4) rfl ?_
  suffices L : ∀ v, v ≤ V 0 0 → P (wO w o V) 4 [some (.ref (g_ad g o 0)), some (.int (nI (sm (fun v => cnt (fun t => kDead V v t) 12) v))), some (.int (nI v))] [] by exact L 0 (Nat.zero_le _)
  refine loopUp (fun v hv ih => ?_)
  refine pw_iload_n hX rfl dX2_allDead_4 (q := 5) rfl ?_
  refine pw_aload_n hX rfl dX2_allDead_5 (q := 6) rfl ?_
  refine pw_getVF hX ho 0 (by decide) fl_X2_9 rfl dX2_allDead_6 (q := 9) rfl ?_
  refine pw_icmpN_ge hX (by first | omega | exact bV_0 hV | exact bV7 hV (by decide) (by omega) | exact bV84 hV (by decide) (by omega) | exact bV12 hV (by omega) | exact bV_1 hV | exact bV_2 hV) (by first | omega | exact bV_0 hV | exact bV7 hV (by decide) (by omega) | exact bV84 hV (by decide) (by omega) | exact bV12 hV (by omega) | exact bV_1 hV | exact bV_2 hV) (tgt := 29) dX2_allDead_9 (q := 12) rfl (by decide) (fun h_9 => ?_) (fun h_9 => ?_)
  · refine pw_iload_n hX rfl dX2_allDead_29 (q := 30) rfl ?_
    refine pw_ireturn hX dX2_allDead_30 ⟨_, rfl, rfl⟩ ⟨congrArg (fun z => some (Value.int z)) ?_, ?_⟩
    · rw [show v = V 0 0 by omega]
    · rfl
  · refine pw_iload_n hX rfl dX2_allDead_12 (q := 13) rfl ?_
    refine pw_aload_n hX rfl dX2_allDead_13 (q := 14) rfl ?_
    refine pw_iload_n hX rfl dX2_allDead_14 (q := 15) rfl ?_
    refine pw_cvI1 hX dX2_allDead_15 (q := 18) rfl mi_X2_deadTopics ml_X2_113 (rcV ho) ⟨rfl, rfl, by decide, by decide⟩ rfl (Nat.le_of_ble_eq_true rfl) (c_X2_deadTopics ho hV (by omega)) ?_
    refine pw_csI1 hX dX2_allDead_18 (q := 21) rfl mi_J6_bitCount_0f7a4 ml_X2_105 ⟨rfl, rfl, by decide, by decide⟩ rfl (Nat.le_of_ble_eq_true rfl) (c_J6_bitCount_0f7a4 (bits_lt _ 12)) ?_
    rw [popc_bits]
    refine pw_iaddN hX dX2_allDead_21 (q := 22) rfl ?_
    refine pw_istore_n hX (by decide) dX2_allDead_22 (q := 23) rfl ?_
    refine pw_iinc hX rfl (by decide) (inc1 _) dX2_allDead_23 (q := 26) rfl ?_
    refine pw_goto hX (tgt := 4) dX2_allDead_26 (by decide) ?_
    exact pw_eq rfl rfl rfl (ih (by omega))

