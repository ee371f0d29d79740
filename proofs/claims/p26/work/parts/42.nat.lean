/-! numbers, bits, what the public calls answer at numbers -/
theorem smod_b : ∀ b, b < 31 → ((nI b &&& 31).toBitVec.smod 32).toNat = b := by decide +kernel
theorem n_shr {a b : Nat} (ha : a < 2 ^ 31) (hb : b < 31) : nI a >>> (nI b &&& 31) = nI (a / 2 ^ b) := pk_shrN ha _ b (smod_b b hb)
theorem n_bit {a b : Nat} (ha : a < 2 ^ 31) (hb : b < 31) : nI a >>> (nI b &&& 31) &&& nI 1 = nI (a / 2 ^ b % 2) := by
  rw [n_shr ha hb, n_and, Nat.and_one_is_mod]
/-- the bits of a that b has not -/
def an (a b : Nat) : Nat := a ^^^ (a &&& b)
theorem an_tb (a b i : Nat) : (an a b).testBit i = (a.testBit i && !(b.testBit i)) := by
  unfold an
  rw [Nat.testBit_xor, Nat.testBit_and]
  cases a.testBit i <;> cases b.testBit i <;> rfl
theorem n_an (a b : Nat) : nI a &&& (nI b ^^^ (-1 : Int32)) = nI (an a b) := by
  apply Int32.toBitVec_inj.mp
  show BitVec.ofNat 32 a &&& (BitVec.ofNat 32 b ^^^ BitVec.allOnes 32) = BitVec.ofNat 32 (an a b)
  apply BitVec.eq_of_getLsbD_eq
  intro i hi
  simp only [BitVec.getLsbD_and, BitVec.getLsbD_xor, BitVec.getLsbD_ofNat, BitVec.getLsbD_allOnes, an_tb, hi, decide_true, Bool.true_and]
  cases a.testBit i <;> cases b.testBit i <;> rfl
theorem an_bits (p q : Nat → Bool) (n : Nat) : an (bits p n) (bits q n) = bits (fun t => p t && !(q t)) n := by
  apply Nat.eq_of_testBit_eq
  intro i
  rw [an_tb, bits_tb, bits_tb, bits_tb]
  by_cases h : i < n
  · simp [h]
  · simp [h]
theorem and_bits (p q : Nat → Bool) (n : Nat) : bits p n &&& bits q n = bits (fun t => p t && q t) n := by
  apply Nat.eq_of_testBit_eq
  intro i
  rw [Nat.testBit_and, bits_tb, bits_tb, bits_tb]
  by_cases h : i < n
  · simp [h]
  · simp [h]
theorem bits_0 {p : Nat → Bool} {n : Nat} (h : ∀ t, t < n → p t = false) : bits p n = 0 := by
  apply Nat.eq_of_testBit_eq
  intro i
  rw [bits_tb, Nat.zero_testBit]
  by_cases hi : i < n
  · rw [h i hi, Bool.and_false]
  · rw [decide_eq_false hi, Bool.false_and]
theorem tb_dm (a i : Nat) : a.testBit i = decide (a / 2 ^ i % 2 = 1) := Nat.testBit_eq_decide_div_mod_eq
theorem bit_tb {a i : Nat} (h : a.testBit i = true) : a / 2 ^ i % 2 = 1 := by
  rw [tb_dm] at h
  exact of_decide_eq_true h
theorem bit_nt {a i : Nat} (h : a.testBit i = false) : a / 2 ^ i % 2 = 0 := by
  rw [tb_dm] at h
  have := of_decide_eq_false h
  omega
theorem bit_at (p : Nat → Bool) {n t : Nat} (h : t < n) : bits p n / 2 ^ t % 2 = if p t = true then 1 else 0 := by
  have e := bits_tb p n t
  rw [decide_eq_true h, Bool.true_and] at e
  cases hp : p t with
  | true => rw [hp] at e; rw [bit_tb e]; rfl
  | false => rw [hp] at e; rw [bit_nt e]; rfl
theorem bits12 (p : Nat → Bool) : bits p 12 < 2 ^ 31 := Nat.lt_trans (bits_lt p 12) (by decide)
theorem ixn {i : Nat} (h : i < 2 ^ 31) : ix (nI i) = i := ix_nI h
theorem hasn {n i : Nat} (h : i < n) (hn : n ≤ 12) : hasN n (nI i) = true := by rw [hasN_nI (by omega)]; exact decide_eq_true h
theorem qOf_at {V : Nat → Nat → Nat} {v k : Nat} (hn : V 0 0 ≤ 7) (hv : v < V 0 0) (hk : k ≤ 5) : qOf V (nI v) (nI k) = if k = 0 then nI (V 1 v) else if k = 1 then nI (V 2 v) else if k = 2 then nI (bits (fun t => kRum V (v * 12 + t)) 12) else if k = 3 then nI (bits (fun t => kTmb V (v * 12 + t)) 12) else if k = 4 then nI (V 4 v) else (if V 1 v = 1 then nI (V 0 1) - nI (V 3 v) else -1000004) := by
  unfold qOf
  rw [if_pos ⟨hasn hv (by omega), by rw [inN_nI (by omega)]; exact decide_eq_true ⟨Nat.zero_le _, hk⟩⟩, ixn (i := v) (by omega), ixn (i := k) (by omega)]
theorem qOf_0 {V : Nat → Nat → Nat} {v : Nat} (hn : V 0 0 ≤ 7) (hv : v < V 0 0) : qOf V (nI v) (nI 0) = nI (V 1 v) := qOf_at hn hv (by decide)
theorem qOf_1 {V : Nat → Nat → Nat} {v : Nat} (hn : V 0 0 ≤ 7) (hv : v < V 0 0) : qOf V (nI v) (nI 1) = nI (V 2 v) := qOf_at hn hv (by decide)
theorem qOf_2 {V : Nat → Nat → Nat} {v : Nat} (hn : V 0 0 ≤ 7) (hv : v < V 0 0) : qOf V (nI v) (nI 2) = nI (bits (fun t => kRum V (v * 12 + t)) 12) := qOf_at hn hv (by decide)
theorem qOf_3 {V : Nat → Nat → Nat} {v : Nat} (hn : V 0 0 ≤ 7) (hv : v < V 0 0) : qOf V (nI v) (nI 3) = nI (bits (fun t => kTmb V (v * 12 + t)) 12) := qOf_at hn hv (by decide)
theorem qOf_4 {V : Nat → Nat → Nat} {v : Nat} (hn : V 0 0 ≤ 7) (hv : v < V 0 0) : qOf V (nI v) (nI 4) = nI (V 4 v) := qOf_at hn hv (by decide)
theorem qOf_5 {V : Nat → Nat → Nat} {v : Nat} (hn : V 0 0 ≤ 7) (hv : v < V 0 0) : qOf V (nI v) (nI 5) = if V 1 v = 1 then nI (V 0 1) - nI (V 3 v) else -1000004 := qOf_at hn hv (by decide)
theorem qEO_at {V : Nat → Nat → Nat} {v t k : Nat} (hn : V 0 0 ≤ 7) (hv : v < V 0 0) (ht : t < 12) (hk : k ≤ 7) : qEO V (nI v) (nI t) (nI k) = if V 5 (v * 12 + t) = 0 then -1000004
     else if k = 0 then bI (kTmb V (v * 12 + t))
     else if k = 1 then nI (V 5 (v * 12 + t) / 8)
     else if k = 2 then nI (V 5 (v * 12 + t) % 8)
     else if k = 3 then (if kTmb V (v * 12 + t) = true then -1000004 else nI (V 7 (v * 12 + t)))
     else if k = 4 then (if kTmb V (v * 12 + t) = true then -1000004 else nI (V 6 (v * 12 + t)))
     else if k = 5 then (if kTmb V (v * 12 + t) = true then nI (V 8 (v * 12 + t)) else -1000004)
     else if k = 6 then (if kTmb V (v * 12 + t) = true then nI (V 9 (v * 12 + t)) else -1000004)
     else (if kTmb V (v * 12 + t) = true then -1000004 else bI (kDead V v t)) := by
  unfold qEO
  rw [if_pos ⟨hasn hv (by omega), hasn ht (by omega), by rw [inN_nI (by omega)]; exact decide_eq_true ⟨Nat.zero_le _, hk⟩⟩, ixn (i := v) (by omega), ixn (i := k) (by omega), ixn (i := t) (by omega)]
theorem qEO_z {V : Nat → Nat → Nat} {v t k : Nat} (hn : V 0 0 ≤ 7) (hv : v < V 0 0) (ht : t < 12) (hk : k ≤ 7) (h : V 5 (v * 12 + t) = 0) : qEO V (nI v) (nI t) (nI k) = -1000004 := by rw [qEO_at hn hv ht hk, if_pos h]
theorem qEO_0 {V : Nat → Nat → Nat} {v t : Nat} (hn : V 0 0 ≤ 7) (hv : v < V 0 0) (ht : t < 12) (h : V 5 (v * 12 + t) ≠ 0) : qEO V (nI v) (nI t) (nI 0) = bI (kTmb V (v * 12 + t)) := by rw [qEO_at hn hv ht (by decide), if_neg h]; rfl
theorem qEO_1 {V : Nat → Nat → Nat} {v t : Nat} (hn : V 0 0 ≤ 7) (hv : v < V 0 0) (ht : t < 12) (h : V 5 (v * 12 + t) ≠ 0) : qEO V (nI v) (nI t) (nI 1) = nI (V 5 (v * 12 + t) / 8) := by rw [qEO_at hn hv ht (by decide), if_neg h]; rfl
theorem qEO_2 {V : Nat → Nat → Nat} {v t : Nat} (hn : V 0 0 ≤ 7) (hv : v < V 0 0) (ht : t < 12) (h : V 5 (v * 12 + t) ≠ 0) : qEO V (nI v) (nI t) (nI 2) = nI (V 5 (v * 12 + t) % 8) := by rw [qEO_at hn hv ht (by decide), if_neg h]; rfl
theorem kTmb_0 {V : Nat → Nat → Nat} {p : Nat} (h : kTmb V p = true) : V 5 p ≠ 0 ∧ V 6 p = 3 := of_decide_eq_true h
theorem kRum_0 {V : Nat → Nat → Nat} {p : Nat} (h : kRum V p = true) : V 5 p ≠ 0 ∧ V 6 p ≠ 3 := of_decide_eq_true h
theorem qEO_5 {V : Nat → Nat → Nat} {v t : Nat} (hn : V 0 0 ≤ 7) (hv : v < V 0 0) (ht : t < 12) (h : kTmb V (v * 12 + t) = true) : qEO V (nI v) (nI t) (nI 5) = nI (V 8 (v * 12 + t)) := by rw [qEO_at hn hv ht (by decide), if_neg (kTmb_0 h).1, if_neg (by decide), if_neg (by decide), if_neg (by decide), if_neg (by decide), if_neg (by decide), if_pos rfl, if_pos h]
theorem qEO_6 {V : Nat → Nat → Nat} {v t : Nat} (hn : V 0 0 ≤ 7) (hv : v < V 0 0) (ht : t < 12) (h : kTmb V (v * 12 + t) = true) : qEO V (nI v) (nI t) (nI 6) = nI (V 9 (v * 12 + t)) := by rw [qEO_at hn hv ht (by decide), if_neg (kTmb_0 h).1, if_neg (by decide), if_neg (by decide), if_neg (by decide), if_neg (by decide), if_neg (by decide), if_neg (by decide), if_pos rfl, if_pos h]
theorem qCnt_0 (V : Nat → Nat → Nat) (k n : Nat) : qCnt V k n (nI 0) = nI (V 0 0) := by unfold qCnt; rw [inN_nI (by decide), ixn (by decide)]; rfl
theorem qCnt_1 (V : Nat → Nat → Nat) (k n : Nat) : qCnt V k n (nI 1) = nI (kMany V 0) := by unfold qCnt; rw [inN_nI (by decide), ixn (by decide)]; rfl
theorem qCnt_2 (V : Nat → Nat → Nat) (k n : Nat) : qCnt V k n (nI 2) = nI (kMany V 1) := by unfold qCnt; rw [inN_nI (by decide), ixn (by decide)]; rfl
theorem qCnt_3 (V : Nat → Nat → Nat) (k n : Nat) : qCnt V k n (nI 3) = nI (V 0 1) := by unfold qCnt; rw [inN_nI (by decide), ixn (by decide)]; rfl
def nRu (V : Nat → Nat → Nat) (v : Nat) : Nat := sm (fun v => cnt (fun t => kRum V (v * 12 + t)) 12) v
def nTo (V : Nat → Nat → Nat) (v : Nat) : Nat := sm (fun v => cnt (fun t => kTmb V (v * 12 + t)) 12) v
def nDe (V : Nat → Nat → Nat) (v : Nat) : Nat := sm (fun v => cnt (fun t => kDead V v t) 12) v
def nGh (V : Nat → Nat → Nat) (v : Nat) : Nat := sm (V 4) v
theorem qCnt_5 (V : Nat → Nat → Nat) (k n : Nat) : qCnt V k n (nI 5) = nI (nRu V (V 0 0)) := by unfold qCnt; rw [inN_nI (by decide), ixn (by decide)]; rfl
theorem qCnt_6 (V : Nat → Nat → Nat) (k n : Nat) : qCnt V k n (nI 6) = nI (nTo V (V 0 0)) := by unfold qCnt; rw [inN_nI (by decide), ixn (by decide)]; rfl
theorem qCnt_7 (V : Nat → Nat → Nat) (k n : Nat) : qCnt V k n (nI 7) = nI (nDe V (V 0 0)) := by unfold qCnt; rw [inN_nI (by decide), ixn (by decide)]; rfl
theorem qCnt_8 (V : Nat → Nat → Nat) (k n : Nat) : qCnt V k n (nI 8) = nI (nGh V (V 0 0)) := by unfold qCnt; rw [inN_nI (by decide), ixn (by decide)]; rfl
theorem qCnt_9 (V : Nat → Nat → Nat) (k n : Nat) : qCnt V k n (nI 9) = nI (V 0 3) := by unfold qCnt; rw [inN_nI (by decide), ixn (by decide)]; rfl
theorem qDead_at {V : Nat → Nat → Nat} {v : Nat} (hn : V 0 0 ≤ 7) (hv : v < V 0 0) : qDead V (nI v) = nI (bits (fun t => kDead V v t) 12) := by
  unfold qDead
  rw [if_pos (hasn hv (by omega)), ixn (i := v) (by omega)]
theorem qUnl_at {V : Nat → Nat → Nat} {v u : Nat} (hn : V 0 0 ≤ 7) (hv : v < V 0 0) (hu : u < V 0 0) : qUnl V (nI v) (nI u) = nI (bits (fun t => !(decide (V 5 (v * 12 + t) = V 5 (u * 12 + t)))) 12) := by
  unfold qUnl
  rw [if_pos ⟨hasn hv (by omega), hasn hu (by omega)⟩, ixn (i := v) (by omega), ixn (i := u) (by omega)]
/-- what holds of a village -/
def J (V : Nat → Nat → Nat) (N G : Nat) : Prop :=
  V 0 0 ≤ 7 ∧ V 0 1 ≤ 4 * N ∧ (1 ≤ V 0 2 ∧ V 0 2 ≤ 30) ∧ V 0 3 ≤ N ∧
  (∀ i, i < 7 → V 1 i ≤ 2 ∧ V 2 i ≤ N ∧ V 3 i ≤ V 0 1 ∧ V 4 i ≤ G ∧ (V 1 i = 2 → ∀ t, t < 12 → V 5 (i * 12 + t) = 0)) ∧
  (∀ i t, i < 7 → t < 12 → V 5 (i * 12 + t) ≠ 0 → 8 ≤ V 5 (i * 12 + t) ∧ V 5 (i * 12 + t) / 8 ≤ V 2 i ∧ V 5 (i * 12 + t) % 8 < 7 ∧ (V 6 (i * 12 + t) = 3 → (V 9 (i * 12 + t)).testBit i = true ∧ (V 9 (i * 12 + t)).testBit (V 5 (i * 12 + t) % 8) = true)) ∧
  (∀ p, p < 84 → V 6 p ≤ 3 ∧ V 7 p ≤ 99 ∧ V 8 p ≤ V 0 1 ∧ V 9 p < 128 ∧ V 10 p ≤ 8 * N + 7) ∧ ∀ t, t < 12 → V 11 t ≤ 8 * N + 7
theorem p84 {p : Nat} (h : p < 84) : ∃ i t, i < 7 ∧ t < 12 ∧ p = i * 12 + t := ⟨p / 12, p % 12, by omega, by omega, by omega⟩
theorem J5 {V : Nat → Nat → Nat} {N G p : Nat} (h : J V N G) (hp : p < 84) : V 5 p ≤ 8 * N + 7 := by
  obtain ⟨h0, h1, h2, h3, h4, h5, h6, h7⟩ := h
  obtain ⟨i, t, hi, ht, rfl⟩ := p84 hp
  by_cases hz : V 5 (i * 12 + t) = 0
  · omega
  · have a := h5 i t hi ht hz
    have b := (h4 i hi).2.1
    omega
theorem J_b {V : Nat → Nat → Nat} {N G : Nat} (h : J V N G) (hN : N ≤ 2 ^ 20) : bP V := by
  have h5' : ∀ p, p < 84 → V 5 p ≤ 8 * N + 7 := fun p hp => J5 h hp
  obtain ⟨h0, h1, h2, h3, h4, h5, h6, h7⟩ := h
  refine ⟨⟨fun k i a b hi => ?_, fun k p a b hp => ?_, fun t ht => ?_, h0, by omega, by omega⟩, fun p hp => (h6 p hp).2.2.1⟩
  · have := h4 i hi
    rcases (show k = 1 ∨ k = 2 ∨ k = 3 by omega) with rfl | rfl | rfl <;> omega
  · have := h6 p hp
    have := h5' p hp
    rcases (show k = 5 ∨ k = 6 ∨ k = 7 ∨ k = 8 ∨ k = 9 ∨ k = 10 by omega) with rfl | rfl | rfl | rfl | rfl | rfl <;> omega
  · have := h7 t ht
    omega
theorem pw_ishrN {l : Launch} {g : Geo} {own : String} {cc : ByteArray} {rm : Room} {nL : Nat} {ret : Option FieldType} {fin : Option Value → WD → Prop} {X : Nat → Nat → (Nat → Int32) → Prop} {P : PT} (hX : Gd l g own cc rm nL ret fin X P) {w : WD} {pc q : Nat} {lv : List (Option Value)} {st : List Value} {a b : Nat} (ha : a < 2 ^ 31) (hb : b < 31) (hd : decode cc pc = .ok (.ishr, 1)) (hq : pc + 1 = q) (kk : P w q lv (.int (nI (a / 2 ^ b)) :: st)) : P w pc lv (.int (nI b) :: .int (nI a) :: st) := pw_ishr hX hd hq (by rw [n_shr ha hb]; exact kk)
theorem rt_0 (V : Nat → Nat → Nat) (v : Nat) : bits (fun t => kRum V (v * 12 + t)) 12 &&& bits (fun t => kTmb V (v * 12 + t)) 12 = 0 := by
  rw [and_bits]
  refine bits_0 (fun t _ => ?_)
  unfold kRum kTmb
  by_cases h : V 6 (v * 12 + t) = 3
  · simp [h]
  · simp [h]
theorem dr_0 (V : Nat → Nat → Nat) (v : Nat) : an (bits (fun t => kDead V v t) 12) (bits (fun t => kRum V (v * 12 + t)) 12) = 0 := by
  rw [an_bits]
  refine bits_0 (fun t _ => ?_)
  unfold kDead
  cases kRum V (v * 12 + t) <;> simp
theorem gone_0 {V : Nat → Nat → Nat} {v : Nat} (h : ∀ t, t < 12 → V 5 (v * 12 + t) = 0) : bits (fun t => kRum V (v * 12 + t)) 12 + bits (fun t => kTmb V (v * 12 + t)) 12 = 0 := by
  have e1 : bits (fun t => kRum V (v * 12 + t)) 12 = 0 := bits_0 (fun t ht => by unfold kRum; simp [h t ht])
  have e2 : bits (fun t => kTmb V (v * 12 + t)) 12 = 0 := bits_0 (fun t ht => by unfold kTmb; simp [h t ht])
  rw [e1, e2]
theorem ent3 (V : Nat → Nat → Nat) (p : Nat) : (V 5 p = 0 ∧ kRum V p = false ∧ kTmb V p = false) ∨ (V 5 p ≠ 0 ∧ kRum V p = true ∧ kTmb V p = false) ∨ (V 5 p ≠ 0 ∧ kRum V p = false ∧ kTmb V p = true) := by
  unfold kRum kTmb
  by_cases h : V 5 p = 0
  · exact Or.inl ⟨h, decide_eq_false (fun z => z.1 h), decide_eq_false (fun z => z.1 h)⟩
  · by_cases h3 : V 6 p = 3
    · exact Or.inr (Or.inr ⟨h, decide_eq_false (fun z => z.2 h3), decide_eq_true ⟨h, h3⟩⟩)
    · exact Or.inr (Or.inl ⟨h, decide_eq_true ⟨h, h3⟩, decide_eq_false (fun z => h3 z.2)⟩)
theorem lt31_and {a b : Nat} (h : a < 2 ^ 31) : a &&& b < 2 ^ 31 := Nat.lt_of_le_of_lt Nat.and_le_left h
theorem nI_sub {a b : Nat} (h : b ≤ a) : nI a - nI b = nI (a - b) := pk_sub h
