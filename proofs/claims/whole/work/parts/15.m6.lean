/-- a contract whose answer is a number and whose world is told by a property -/
def CtE (l : Launch) (g : Geo) (y : MethodName) (bytes : ByteArray) (maxL : Nat) (ret : Option FieldType) (rm : Room) (av : List Value) (w : WD) (r : Int32) (Z : WD → Prop) : Prop := Ct l g y bytes maxL ret rm av w (fun x z => x = some (.int r) ∧ Z z)
theorem CtI.E {l : Launch} {g : Geo} {y : MethodName} {bytes : ByteArray} {maxL : Nat} {ret : Option FieldType} {rm : Room} {av : List Value} {w : WD} {r : Int32} {w' : WD} (h : CtI l g y bytes maxL ret rm av w r w') : CtE l g y bytes maxL ret rm av w r (fun z => z = w') := h
theorem pw_cvE0 {l : Launch} {g : Geo} {own : String} {cc : ByteArray} {rm : Room} {nL : Nat} {ret : Option FieldType} {fin : Option Value → WD → Prop} {X : Nat → Nat → (Nat → Int32) → Prop} {P : PT} (hX : Gd l g own cc rm nL ret fin X P) {w : WD} {pc q : Nat} {lv : List (Option Value)} {st : List Value} {y : MethodName} {bytes : ByteArray} {maxL n index : Nat} {rt : Option FieldType} {rmc : Room} {Z : WD → Prop} {r : Int32} {o : Nat} (hd : decode cc pc = .ok (.invokevirtual index, 3)) (hq : pc + 3 = q) (hM : MI y bytes maxL rt n) (hlk : Cond.methodLink own index y ∈ TB) (hrc : Rc o y.cls) (hrm : RmOk rm rmc maxL) (hn : 0 = n) (hcat : (st.map fun v => v.category).sum ≤ 8) (hC : CtE l g y bytes maxL rt rmc [.ref (g_ad g o 0)] w r Z) (kk : ∀ w', Z w' → P w' q lv (.int r :: st)) : P w pc lv (.ref (g_ad g o 0) :: st) := pw_callV hX (As := []) hd hq hM hlk hrc hrm hn rfl hcat hC (fun r w2 h => by obtain ⟨rfl, h2⟩ := h; exact kk _ h2)
theorem pw_cvE1 {l : Launch} {g : Geo} {own : String} {cc : ByteArray} {rm : Room} {nL : Nat} {ret : Option FieldType} {fin : Option Value → WD → Prop} {X : Nat → Nat → (Nat → Int32) → Prop} {P : PT} (hX : Gd l g own cc rm nL ret fin X P) {w : WD} {pc q : Nat} {lv : List (Option Value)} {st : List Value} {y : MethodName} {bytes : ByteArray} {maxL n index : Nat} {rt : Option FieldType} {rmc : Room} {Z : WD → Prop} {r : Int32} {o : Nat} {v1 : Value} (hd : decode cc pc = .ok (.invokevirtual index, 3)) (hq : pc + 3 = q) (hM : MI y bytes maxL rt n) (hlk : Cond.methodLink own index y ∈ TB) (hrc : Rc o y.cls) (hrm : RmOk rm rmc maxL) (hn : 1 = n) (hcat : (st.map fun v => v.category).sum ≤ 8) (hC : CtE l g y bytes maxL rt rmc [.ref (g_ad g o 0), v1] w r Z) (kk : ∀ w', Z w' → P w' q lv (.int r :: st)) : P w pc lv (v1 :: .ref (g_ad g o 0) :: st) := pw_callV hX (As := [v1]) hd hq hM hlk hrc hrm hn rfl hcat hC (fun r w2 h => by obtain ⟨rfl, h2⟩ := h; exact kk _ h2)
theorem pw_cvE2 {l : Launch} {g : Geo} {own : String} {cc : ByteArray} {rm : Room} {nL : Nat} {ret : Option FieldType} {fin : Option Value → WD → Prop} {X : Nat → Nat → (Nat → Int32) → Prop} {P : PT} (hX : Gd l g own cc rm nL ret fin X P) {w : WD} {pc q : Nat} {lv : List (Option Value)} {st : List Value} {y : MethodName} {bytes : ByteArray} {maxL n index : Nat} {rt : Option FieldType} {rmc : Room} {Z : WD → Prop} {r : Int32} {o : Nat} {v1 v2 : Value} (hd : decode cc pc = .ok (.invokevirtual index, 3)) (hq : pc + 3 = q) (hM : MI y bytes maxL rt n) (hlk : Cond.methodLink own index y ∈ TB) (hrc : Rc o y.cls) (hrm : RmOk rm rmc maxL) (hn : 2 = n) (hcat : (st.map fun v => v.category).sum ≤ 8) (hC : CtE l g y bytes maxL rt rmc [.ref (g_ad g o 0), v1, v2] w r Z) (kk : ∀ w', Z w' → P w' q lv (.int r :: st)) : P w pc lv (v2 :: v1 :: .ref (g_ad g o 0) :: st) := pw_callV hX (As := [v1, v2]) hd hq hM hlk hrc hrm hn rfl hcat hC (fun r w2 h => by obtain ⟨rfl, h2⟩ := h; exact kk _ h2)
theorem pw_cvE3 {l : Launch} {g : Geo} {own : String} {cc : ByteArray} {rm : Room} {nL : Nat} {ret : Option FieldType} {fin : Option Value → WD → Prop} {X : Nat → Nat → (Nat → Int32) → Prop} {P : PT} (hX : Gd l g own cc rm nL ret fin X P) {w : WD} {pc q : Nat} {lv : List (Option Value)} {st : List Value} {y : MethodName} {bytes : ByteArray} {maxL n index : Nat} {rt : Option FieldType} {rmc : Room} {Z : WD → Prop} {r : Int32} {o : Nat} {v1 v2 v3 : Value} (hd : decode cc pc = .ok (.invokevirtual index, 3)) (hq : pc + 3 = q) (hM : MI y bytes maxL rt n) (hlk : Cond.methodLink own index y ∈ TB) (hrc : Rc o y.cls) (hrm : RmOk rm rmc maxL) (hn : 3 = n) (hcat : (st.map fun v => v.category).sum ≤ 8) (hC : CtE l g y bytes maxL rt rmc [.ref (g_ad g o 0), v1, v2, v3] w r Z) (kk : ∀ w', Z w' → P w' q lv (.int r :: st)) : P w pc lv (v3 :: v2 :: v1 :: .ref (g_ad g o 0) :: st) := pw_callV hX (As := [v1, v2, v3]) hd hq hM hlk hrc hrm hn rfl hcat hC (fun r w2 h => by obtain ⟨rfl, h2⟩ := h; exact kk _ h2)
theorem pw_cvE4 {l : Launch} {g : Geo} {own : String} {cc : ByteArray} {rm : Room} {nL : Nat} {ret : Option FieldType} {fin : Option Value → WD → Prop} {X : Nat → Nat → (Nat → Int32) → Prop} {P : PT} (hX : Gd l g own cc rm nL ret fin X P) {w : WD} {pc q : Nat} {lv : List (Option Value)} {st : List Value} {y : MethodName} {bytes : ByteArray} {maxL n index : Nat} {rt : Option FieldType} {rmc : Room} {Z : WD → Prop} {r : Int32} {o : Nat} {v1 v2 v3 v4 : Value} (hd : decode cc pc = .ok (.invokevirtual index, 3)) (hq : pc + 3 = q) (hM : MI y bytes maxL rt n) (hlk : Cond.methodLink own index y ∈ TB) (hrc : Rc o y.cls) (hrm : RmOk rm rmc maxL) (hn : 4 = n) (hcat : (st.map fun v => v.category).sum ≤ 8) (hC : CtE l g y bytes maxL rt rmc [.ref (g_ad g o 0), v1, v2, v3, v4] w r Z) (kk : ∀ w', Z w' → P w' q lv (.int r :: st)) : P w pc lv (v4 :: v3 :: v2 :: v1 :: .ref (g_ad g o 0) :: st) := pw_callV hX (As := [v1, v2, v3, v4]) hd hq hM hlk hrc hrm hn rfl hcat hC (fun r w2 h => by obtain ⟨rfl, h2⟩ := h; exact kk _ h2)
theorem pw_cvE5 {l : Launch} {g : Geo} {own : String} {cc : ByteArray} {rm : Room} {nL : Nat} {ret : Option FieldType} {fin : Option Value → WD → Prop} {X : Nat → Nat → (Nat → Int32) → Prop} {P : PT} (hX : Gd l g own cc rm nL ret fin X P) {w : WD} {pc q : Nat} {lv : List (Option Value)} {st : List Value} {y : MethodName} {bytes : ByteArray} {maxL n index : Nat} {rt : Option FieldType} {rmc : Room} {Z : WD → Prop} {r : Int32} {o : Nat} {v1 v2 v3 v4 v5 : Value} (hd : decode cc pc = .ok (.invokevirtual index, 3)) (hq : pc + 3 = q) (hM : MI y bytes maxL rt n) (hlk : Cond.methodLink own index y ∈ TB) (hrc : Rc o y.cls) (hrm : RmOk rm rmc maxL) (hn : 5 = n) (hcat : (st.map fun v => v.category).sum ≤ 8) (hC : CtE l g y bytes maxL rt rmc [.ref (g_ad g o 0), v1, v2, v3, v4, v5] w r Z) (kk : ∀ w', Z w' → P w' q lv (.int r :: st)) : P w pc lv (v5 :: v4 :: v3 :: v2 :: v1 :: .ref (g_ad g o 0) :: st) := pw_callV hX (As := [v1, v2, v3, v4, v5]) hd hq hM hlk hrc hrm hn rfl hcat hC (fun r w2 h => by obtain ⟨rfl, h2⟩ := h; exact kk _ h2)
/-- the same but for what is only used by the way -/
def sV (V V' : Nat → Nat → Nat) : Prop := V' 2 = V 2 ∧ V' 5 = V 5 ∧ V' 0 4 = V 0 4 ∧ V' 0 6 = V 0 6
theorem sV_rf (V : Nat → Nat → Nat) : sV V V := ⟨rfl, rfl, rfl, rfl⟩
theorem sV_4 {V V' : Nat → Nat → Nat} (h : sV V V') (f : Nat → Nat) : sV V (vA V' 4 f) := h
theorem mPs_lo (S : Nat → Nat) {f p t j : Nat} (hp : p < 7) (h : j < 225) (h3 : j ≠ 3) (hm : j ≠ 5 + 4 * p + 2) : mPs S f p t j = S j := by
  unfold mPs
  split
  · unfold cpE
    rw [if_neg (by omega)]
    split
    · unfold mGh
      rw [upN_n _ _ h3, upN_n _ _ hm]
    · rfl
  · rfl
theorem mSee_lo (S : Nat → Nat) {o p t j : Nat} (h : j < 225) : mSee S o p t j = S j := by
  unfold mSee
  split
  · rw [upN_n _ _ (by omega), upN_n _ _ (by omega)]
  · rfl
theorem mMt_lo (S : Nat → Nat) {o p j : Nat} (ho : o < 7) (hp : p < 7) (h : j < 225) (h3 : j ≠ 3) (hm : j < 5 ∨ 33 ≤ j ∨ (j - 5) % 4 ≠ 2) : ∀ t, (mMt S o p t).1 j = S j
  | 0 => rfl
  | t + 1 => by
    show mSee (mP2s (mMt S o p t).1 o p t) o p t j = S j
    rw [mSee_lo _ h]
    unfold mP2s
    split
    · rw [mPs_lo _ hp h h3 (by omega)]; exact mMt_lo S ho hp h h3 hm t
    · rw [mPs_lo _ ho h h3 (by omega)]; exact mMt_lo S ho hp h h3 hm t
/-- what a meeting leaves as it was -/
theorem mMeet_lo (S : Nat → Nat) {o p j : Nat} (ho : o < 7) (hp : p < 7) (h : j < 225) (h3 : j ≠ 3) (hm : j < 5 ∨ 33 ≤ j ∨ ((j - 5) % 4 ≠ 2 ∧ (j - 5) % 4 ≠ 1)) : (mMeet S o p).1 j = S j := by
  unfold mMeet
  rw [mMt_lo _ ho hp h h3 (by omega)]
  unfold mMeet0
  rw [upN_n _ _ (by omega), upN_n _ _ (by omega)]
theorem mPs_3 (S : Nat → Nat) {f p t : Nat} (hp : p < 7) : S 3 ≤ mPs S f p t 3 := by
  unfold mPs
  split
  · unfold cpE
    rw [if_neg (by omega)]
    split
    · unfold mGh
      rw [upN_s, upN_n _ _ (by omega)]
      omega
    · exact Nat.le_refl _
  · exact Nat.le_refl _
theorem mMt_3 (S : Nat → Nat) {o p : Nat} (ho : o < 7) (hp : p < 7) : ∀ t, S 3 ≤ (mMt S o p t).1 3
  | 0 => Nat.le_refl _
  | t + 1 => by
    show S 3 ≤ mSee (mP2s (mMt S o p t).1 o p t) o p t 3
    rw [mSee_lo _ (by decide)]
    refine Nat.le_trans (mMt_3 S ho hp t) ?_
    unfold mP2s
    split
    · exact mPs_3 _ hp
    · exact mPs_3 _ ho
theorem mMeet_3 (S : Nat → Nat) {o p : Nat} (ho : o < 7) (hp : p < 7) : S 3 ≤ (mMeet S o p).1 3 := by
  unfold mMeet
  refine Nat.le_trans ?_ (mMt_3 _ ho hp 12)
  unfold mMeet0
  rw [upN_n _ _ (by omega), upN_n _ _ (by omega)]
  exact Nat.le_refl _
def mGhosts (S : Nat → Nat) (v u a : Int32) : Int32 := if hasN (S 0) v = true ∧ hasN (S 0) u = true ∧ v ≠ u ∧ inN 0 60 a = true then (if S (5 + 4 * ix v + 0) = 2 ∨ S (5 + 4 * ix u + 0) = 2 then -1000002 else nI ((mMeet (mTickI S (ix a)).1 (ix v) (ix u)).1 3 - (mTickI S (ix a)).1 3)) else -1000001
def bmS (S : Nat → Nat) (o p : Nat) (x : Nat × Nat) : Nat × Nat := if S (5 + 4 * o + 0) = 0 ∧ S (5 + 4 * p + 0) = 0 ∧ x.1 ≤ (mMeet S o p).2 then ((mMeet S o p).2 + 1, 10 * o + p) else x
def bmI (S : Nat → Nat) (o : Nat) (x : Nat × Nat) : Nat → Nat × Nat
  | 0 => x
  | k + 1 => bmS S o (o + 1 + k) (bmI S o x k)
def bmO (S : Nat → Nat) : Nat → Nat × Nat
  | 0 => (0, 0)
  | o + 1 => bmI S o (bmO S o) (S 0 - (o + 1))
def fv (x : Nat × Nat) : Int32 := if x.1 = 0 then -1000004 else nI x.2
theorem bv_le {n b : Nat} (hn : n < 2 ^ 31) (hb : b < 2 ^ 31) : nI n ≤ bv b ↔ n < b := by
  rcases b with _ | b
  · refine ⟨fun h => absurd h (Int32.not_le.mpr ?_), fun h => absurd h (Nat.not_lt_zero _)⟩
    rw [Int32.lt_iff_toInt_lt, nI_toInt hn, show (bv 0).toInt = -1 by decide]; omega
  · rw [bv_s, nI_leI hn (by omega)]; omega
theorem bv_ge {b : Nat} (hb : b < 2 ^ 31) : 0 ≤ bv b ↔ b ≠ 0 := by
  rcases b with _ | b
  · exact ⟨fun h => absurd h (by decide), fun h => absurd rfl h⟩
  · rw [bv_s]; exact ⟨fun _ => by omega, fun _ => nI_pos' (by omega)⟩
theorem fv_s (n x : Nat) : fv (n + 1, x) = nI x := rfl
theorem bmI_s (S : Nat → Nat) (o : Nat) (x : Nat × Nat) (k : Nat) : bmI S o x (k + 1) = bmS S o (o + 1 + k) (bmI S o x k) := rfl
theorem bmS_le (S : Nat → Nat) (o p : Nat) (x : Nat × Nat) (h : x.1 ≤ 13) : (bmS S o p x).1 ≤ 13 := by
  have := mMt_n (mMeet0 S o p) o p 12
  have h2 : (mMeet S o p).2 ≤ 12 := this
  unfold bmS
  split
  · show (mMeet S o p).2 + 1 ≤ 13
    omega
  · exact h
theorem bmI_le (S : Nat → Nat) (o : Nat) (x : Nat × Nat) (h : x.1 ≤ 13) : ∀ k, (bmI S o x k).1 ≤ 13
  | 0 => h
  | k + 1 => bmS_le S _ _ _ (bmI_le S o x h k)
theorem bmO_le (S : Nat → Nat) : ∀ o, (bmO S o).1 ≤ 13
  | 0 => Nat.zero_le _
  | o + 1 => bmI_le S _ _ (bmO_le S o) _
def mBM (S : Nat → Nat) (a : Int32) : Int32 := if inN 0 1 a = true then (if ix a = 0 ∨ (bmO S (S 0)).1 = 0 then fv (bmO S (S 0)) else bv (bmO S (S 0)).1) else -1000001
def mAB (S : Nat → Nat) : Nat → Nat → Nat
  | 0, k => k
  | f + 1, k => if k < S 0 ∧ S (5 + 4 * k + 0) ≠ 0 then mAB S f (k + 1) else k
def mNx (S : Nat → Nat) (k : Nat) : Nat := mAB S (S 0 - k) k
theorem mNx_s {S : Nat → Nat} {k : Nat} (h : k < S 0) (h2 : S (5 + 4 * k + 0) ≠ 0) : mNx S (k + 1) = mNx S k := by
  unfold mNx
  rw [show S 0 - k = (S 0 - (k + 1)) + 1 by omega]
  exact (if_pos (c := k < S 0 ∧ S (5 + 4 * k + 0) ≠ 0) ⟨h, h2⟩).symm
theorem mNx_e {S : Nat → Nat} {k : Nat} (h : ¬ (k < S 0 ∧ S (5 + 4 * k + 0) ≠ 0)) : mNx S k = k := by
  unfold mNx
  rcases hd : S 0 - k with _ | d
  · rfl
  · exact if_neg h
theorem mAB_ge (S : Nat → Nat) : ∀ f k, k ≤ mAB S f k
  | 0, _ => Nat.le_refl _
  | f + 1, k => by
    unfold mAB
    split
    · exact Nat.le_trans (Nat.le_succ k) (mAB_ge S f (k + 1))
    · exact Nat.le_refl _
theorem mAB_le (S : Nat → Nat) : ∀ f k, mAB S f k ≤ k + f
  | 0, _ => Nat.le_refl _
  | f + 1, k => by
    unfold mAB
    split
    · have := mAB_le S f (k + 1); omega
    · omega
theorem mNx_ge (S : Nat → Nat) (k : Nat) : k ≤ mNx S k := mAB_ge S _ _
theorem mNx_le (S : Nat → Nat) {k : Nat} (h : k ≤ S 0 + 1) : mNx S k ≤ S 0 + 1 := by
  have := mAB_le S (S 0 - k) k
  unfold mNx
  omega
theorem mNx_l2 (S : Nat → Nat) {k : Nat} (h : k ≤ S 0 + 2) : mNx S k ≤ S 0 + 2 := by
  have := mAB_le S (S 0 - k) k
  unfold mNx
  omega
def allT (S : Nat → Nat) (a b : Nat) : Nat → Bool
  | 0 => true
  | t + 1 => allT S a b t && mSame S a b t
def mAllF (S : Nat → Nat) (a : Nat) : Nat → Nat → Bool → Bool
  | 0, _, is => is
  | f + 1, v, is => if v < S 0 then mAllF S a f (mNx S (v + 1)) (is && allT S a v 12) else is
def mAll (S : Nat → Nat) : Bool := mAllF S (mNx S 0) (S 0 + 1) (mNx S (mNx S 0 + 1)) true
def mRdS (S : Nat → Nat) (a v : Nat) : Nat → Nat := if mNx S (v + 1) < S 0 then (mMeet S v (mNx S (v + 1))).1 else if 2 < mMany S 0 then (mMeet S v a).1 else S
def mRdF (a : Nat) : Nat → (Nat → Nat) → Nat → (Nat → Nat)
  | 0, S, _ => S
  | f + 1, S, v => if v < S 0 then mRdF a f (mRdS S a v) (mNx (mRdS S a v) (v + 1)) else S
def mRound (S : Nat → Nat) : Nat → Nat := mRdF (mNx S 0) (S 0 + 1) S (mNx S 0)
theorem mRdS_b {S : Nat → Nat} (hB : bS S) {a v : Nat} (ha : a < 7) (hv : v < 7) : bS (mRdS S a v) ∧ mRdS S a v 0 = S 0 := by
  have h7 := hB.2.2.1
  unfold mRdS
  split
  · rename_i h
    exact ⟨bS_Meet hB hv (by omega), mMeet_lo S hv (by omega) (by decide) (by decide) (by decide)⟩
  · split
    · exact ⟨bS_Meet hB hv ha, mMeet_lo S hv ha (by decide) (by decide) (by decide)⟩
    · exact ⟨hB, rfl⟩
theorem mRdF_b {a : Nat} : ∀ f S v, bS S → a ≤ v → bS (mRdF a f S v) ∧ mRdF a f S v 0 = S 0
  | 0, S, v, hB, _ => ⟨hB, rfl⟩
  | f + 1, S, v, hB, hav => by
    have h7 := hB.2.2.1
    unfold mRdF
    split
    · rename_i hv
      have h1 := mRdS_b hB (a := a) (v := v) (by omega) (by omega)
      have h2 := mRdF_b (a := a) f (mRdS S a v) (mNx (mRdS S a v) (v + 1)) h1.1 (by have := mNx_ge (mRdS S a v) (v + 1); omega)
      exact ⟨h2.1, h2.2.trans h1.2⟩
    · exact ⟨hB, rfl⟩
theorem mRound_b {S : Nat → Nat} (hB : bS S) : bS (mRound S) ∧ mRound S 0 = S 0 := mRdF_b _ _ _ hB (Nat.le_refl _)
def rdF : Nat → (Nat → Nat) → Nat → Nat × (Nat → Nat)
  | 0, S, n => (n, S)
  | f + 1, S, n => if mAll S = true then (n, S) else rdF f (mRound S) (n + 1)
def mRounds (S : Nat → Nat) : Int32 := if mAll (rdF 7 S 0).2 = true then nI (rdF 7 S 0).1 else -1000004
theorem cnt_s (p : Nat → Bool) (n : Nat) : cnt p (n + 1) = cnt p n + if p n = true then 1 else 0 := rfl
def mEp (S : Nat → Nat) (a k : Nat) : Bool := decide (k / 12 < S 0) && (if a = 3 then mDead S (k / 12) (k % 12) else decide (S (225 + 84 * (k / 12) + 7 * (k % 12) + 0) = a))
def mEnt (S : Nat → Nat) (a : Nat) : Nat := cnt (mEp S a) 84
def mCount (V : Nat → Nat → Nat) (S : Nat → Nat) (a : Int32) : Int32 := if inN 0 11 a = true then (if ix a = 0 then nI (S 0) else if ix a = 1 ∨ ix a = 2 then nI (mMany S (ix a - 1)) else if ix a = 3 then nI (S 1) else if ix a = 4 then nI (S 2) else if ix a = 5 ∨ ix a = 6 ∨ ix a = 7 then nI (mEnt S (ix a - 4)) else if ix a = 8 then nI (S 3) else if ix a = 9 then nI (S 4) else if ix a = 10 then nI (V 0 4) else nI (V 0 6)) else -1000001
def mUndoS (V : Nat → Nat → Nat) : Nat → Nat := fun k => V 2 (813 * (V 0 4 - 1) + k)
abbrev rm_X4_ghosts : Room := { frames := 5, cells := 0, slots := 0, locals := 119 }
set_option maxHeartbeats 800000 in
set_option maxRecDepth 20000 in
theorem c_X4_ghosts {l : Launch} {g : Geo} {w : WD} {V : Nat → Nat → Nat} {S : Nat → Nat} {v u a : Int32} (hB : bS S) (hW : bW S) (ht : S 1 ≤ 100000) : CtE l g yX4_ghosts cX4_ghosts 6 (some .int) rm_X4_ghosts [.ref (g_ad g 9 0), .int v, .int u, .int a] (mW w V S) (mGhosts S v u a) (fun z => ∃ V1, sV V V1 ∧ z = mW w V1 S) := by
  refine ct_of mi_X4_ghosts.2.2.2.2.2 ⟨rfl, rfl⟩ (List.forall_mem_cons.mpr ⟨rfl, List.forall_mem_cons.mpr ⟨rfl, List.forall_mem_cons.mpr ⟨rfl, List.forall_mem_cons.mpr ⟨rfl, fun _ h => absurd h List.not_mem_nil⟩⟩⟩⟩) (Nat.le_of_ble_eq_true rfl) (fun P hX => ?_)
  replace hX : Gd l g RX4 cX4_ghosts rm_X4_ghosts 6 (some .int) _ _ P := hX
  show P (mW w V S) 0 [some (.ref (g_ad g 9 0)), some (.int v), some (.int u), some (.int a), none, none] []
  have h7 := hB.2.2.1
  refine pw_aload_n hX rfl dX4_ghosts_0 (q := 1) rfl ?_
  refine pw_iload_n hX rfl dX4_ghosts_1 (q := 2) rfl ?_
  refine pw_cvI1 hX dX4_ghosts_2 (q := 5) rfl mi_X4_isVillager ml_X4_53 rcM ⟨rfl, rfl, by decide, by decide⟩ rfl (Nat.le_of_ble_eq_true rfl) (c_X4_isVillager (by first | assumption | omega)) ?_
  refine pw_ifB_eq hX (tgt := 31) dX4_ghosts_5 (q := 8) rfl (by decide) (fun h_5 => ?_) (fun h_5 => ?_)
  · refine pw_ldc hX cn_X4_40 dX4_ghosts_31 (q := 33) rfl ?_
    refine pw_ireturn hX dX4_ghosts_33 ⟨_, rfl, rfl⟩ ⟨congrArg (fun z => some (Value.int z)) ?_, ?_⟩
    · rw [mGhosts, if_neg (by rintro ⟨a1, a2, a3, a4⟩; simp_all)]
    · exact ⟨V, sV_rf V, rfl⟩
  · obtain ⟨i, hi, rfl⟩ := hasN_of (by have := hB.2.2.1; omega) h_5
    have hx : ix (nI i) = i := ix_nI (by have := hB.2.2.1; omega)
    have h7 := hB.2.2.1
    refine pw_aload_n hX rfl dX4_ghosts_8 (q := 9) rfl ?_
    refine pw_iload_n hX rfl dX4_ghosts_9 (q := 10) rfl ?_
    refine pw_cvI1 hX dX4_ghosts_10 (q := 13) rfl mi_X4_isVillager ml_X4_53 rcM ⟨rfl, rfl, by decide, by decide⟩ rfl (Nat.le_of_ble_eq_true rfl) (c_X4_isVillager (by first | assumption | omega)) ?_
    refine pw_ifB_eq hX (tgt := 31) dX4_ghosts_13 (q := 16) rfl (by decide) (fun h_13 => ?_) (fun h_13 => ?_)
    · refine pw_ldc hX cn_X4_40 dX4_ghosts_31 (q := 33) rfl ?_
      refine pw_ireturn hX dX4_ghosts_33 ⟨_, rfl, rfl⟩ ⟨congrArg (fun z => some (Value.int z)) ?_, ?_⟩
      · rw [mGhosts, if_neg (by rintro ⟨a1, a2, a3, a4⟩; simp_all)]
      · exact ⟨V, sV_rf V, rfl⟩
    · obtain ⟨j, hj, rfl⟩ := hasN_of (by omega) h_13
      have hxj : ix (nI j) = j := ix_nI (by omega)
      refine pw_iload_n hX rfl dX4_ghosts_16 (q := 17) rfl ?_
      refine pw_iload_n hX rfl dX4_ghosts_17 (q := 18) rfl ?_
      refine pw_icmpN_eq hX (by first | omega | exact bS0 hB | exact bSw hB (by omega) (by omega) (by omega) | exact bSe hB (by omega) (by omega) | exact bS1 hB | exact bS2 hB) (by first | omega | exact bS0 hB | exact bSw hB (by omega) (by omega) (by omega) | exact bSe hB (by omega) (by omega) | exact bS1 hB | exact bS2 hB) (tgt := 31) dX4_ghosts_18 (q := 21) rfl (by decide) (fun h_18 => ?_) (fun h_18 => ?_)
      · refine pw_ldc hX cn_X4_40 dX4_ghosts_31 (q := 33) rfl ?_
        refine pw_ireturn hX dX4_ghosts_33 ⟨_, rfl, rfl⟩ ⟨congrArg (fun z => some (Value.int z)) ?_, ?_⟩
        · rw [mGhosts, if_neg (by rintro ⟨a1, a2, a3, a4⟩; simp_all)]
        · exact ⟨V, sV_rf V, rfl⟩
      · refine pw_iload_n hX rfl dX4_ghosts_21 (q := 22) rfl ?_
        refine pw_iconst hX (k := 0) rfl (by decide) dX4_ghosts_22 (q := 23) rfl ?_
        refine pw_bipush hX (k := 60) (by decide) dX4_ghosts_23 (q := 25) rfl ?_
        refine pw_csI3 hX dX4_ghosts_25 (q := 28) rfl mi_X4_in ml_X4_33 ⟨rfl, rfl, by decide, by decide⟩ rfl (Nat.le_of_ble_eq_true rfl) (c_X4_inN (by decide) (by decide)) ?_
        refine pw_ifB_ne hX (tgt := 34) dX4_ghosts_28 (q := 31) rfl (by decide) (fun h_28 => ?_) (fun h_28 => ?_)
        · obtain ⟨k, -, hk, rfl⟩ := inN_of (by decide) h_28
          have hxk : ix (nI k) = k := ix_nI (by omega)
          have hne : nI i ≠ nI j := fun z => h_18 ((nI_eq (by omega) (by omega)).mp z)
          refine pw_aload_n hX rfl dX4_ghosts_34 (q := 35) rfl ?_
          refine pw_iload_n hX rfl dX4_ghosts_35 (q := 36) rfl ?_
          refine pw_cvI1 hX dX4_ghosts_36 (q := 39) rfl mi_X4_isGone ml_X4_70 rcM ⟨rfl, rfl, by decide, by decide⟩ rfl (Nat.le_of_ble_eq_true rfl) (c_X4_isGone (by first | assumption | omega) (by first | assumption | omega)) ?_
          refine pw_ifB_ne hX (tgt := 50) dX4_ghosts_39 (q := 42) rfl (by decide) (fun h_39 => ?_) (fun h_39 => ?_)
          · have h_39 := of_decide_eq_true h_39
            refine pw_ldc hX cn_X4_60 dX4_ghosts_50 (q := 52) rfl ?_
            refine pw_ireturn hX dX4_ghosts_52 ⟨_, rfl, rfl⟩ ⟨congrArg (fun z => some (Value.int z)) ?_, ?_⟩
            · rw [mGhosts, if_pos ⟨h_5, h_13, hne, h_28⟩, hx, hxj, if_pos (by first | exact Or.inl h_39 | exact Or.inr h_47)]
            · exact ⟨V, sV_rf V, rfl⟩
          · have h_39 := of_decide_eq_false h_39
            refine pw_aload_n hX rfl dX4_ghosts_42 (q := 43) rfl ?_
            refine pw_iload_n hX rfl dX4_ghosts_43 (q := 44) rfl ?_
            refine pw_cvI1 hX dX4_ghosts_44 (q := 47) rfl mi_X4_isGone ml_X4_70 rcM ⟨rfl, rfl, by decide, by decide⟩ rfl (Nat.le_of_ble_eq_true rfl) (c_X4_isGone (by first | assumption | omega) (by first | assumption | omega)) ?_
            refine pw_ifB_eq hX (tgt := 53) dX4_ghosts_47 (q := 50) rfl (by decide) (fun h_47 => ?_) (fun h_47 => ?_)
            · have h_47 := of_decide_eq_false h_47
              refine pw_aload_n hX rfl dX4_ghosts_53 (q := 54) rfl ?_
              refine pw_cvV0 hX dX4_ghosts_54 (q := 57) rfl mi_X4_puts ml_X4_135 rcM ⟨rfl, rfl, by decide, by decide⟩ rfl (Nat.le_of_ble_eq_true rfl) (c_X4_puts) ?_
              refine pw_iconst hX (k := 0) rfl (by decide) dX4_ghosts_57 (q := 58) rfl ?_
              refine pw_istore hX (by decide) dX4_ghosts_58 (q := 60) rfl ?_
              suffices L : ∀ m, m ≤ k → P (mW w (vA V 4 S) (mTickI S m).1) 60 [some (.ref (g_ad g 9 0)), some (.int (nI i)), some (.int (nI j)), some (.int (nI k)), some (.int (nI m)), none] [] by exact L 0 (Nat.zero_le _)
              refine loopUp (fun m hm ih => ?_)
              refine pw_iload hX rfl dX4_ghosts_60 (q := 62) rfl ?_
              refine pw_iload_n hX rfl dX4_ghosts_62 (q := 63) rfl ?_
              refine pw_icmpN_ge hX (by first | omega | exact bS0 hB | exact bSw hB (by omega) (by omega) (by omega) | exact bSe hB (by omega) (by omega) | exact bS1 hB | exact bS2 hB) (by first | omega | exact bS0 hB | exact bSw hB (by omega) (by omega) (by omega) | exact bSe hB (by omega) (by omega) | exact bS1 hB | exact bS2 hB) (tgt := 77) dX4_ghosts_63 (q := 66) rfl (by decide) (fun h_63 => ?_) (fun h_63 => ?_)
              · have e77 : m = k := by omega
                subst e77
                refine pw_aload_n hX rfl dX4_ghosts_77 (q := 78) rfl ?_
                refine pw_getMS hX 0 (by decide) fl_X4_7 rfl dX4_ghosts_78 (q := 81) rfl ?_
                refine pw_iconst hX (k := 3) rfl (by decide) dX4_ghosts_81 (q := 82) rfl ?_
                refine pw_ialdS hX (by omega) dX4_ghosts_82 (q := 83) rfl ?_
                refine pw_istore hX (by decide) dX4_ghosts_83 (q := 85) rfl ?_
                refine pw_aload_n hX rfl dX4_ghosts_85 (q := 86) rfl ?_
                refine pw_iload_n hX rfl dX4_ghosts_86 (q := 87) rfl ?_
                refine pw_iload_n hX rfl dX4_ghosts_87 (q := 88) rfl ?_
                refine pw_cvI2 hX dX4_ghosts_88 (q := 91) rfl mi_X4_meets ml_X4_114 rcM ⟨rfl, rfl, by decide, by decide⟩ rfl (Nat.le_of_ble_eq_true rfl) (c_X4_meets (by omega) (by omega) (mTickI_b hB hW m (by omega)).1) ?_
                refine pw_pop hX rfl dX4_ghosts_91 (q := 92) rfl ?_
                refine pw_aload_n hX rfl dX4_ghosts_92 (q := 93) rfl ?_
                refine pw_getMS hX 0 (by decide) fl_X4_7 rfl dX4_ghosts_93 (q := 96) rfl ?_
                refine pw_iconst hX (k := 3) rfl (by decide) dX4_ghosts_96 (q := 97) rfl ?_
                refine pw_ialdS hX (by omega) dX4_ghosts_97 (q := 98) rfl ?_
                refine pw_iload hX rfl dX4_ghosts_98 (q := 100) rfl ?_
                refine pw_isubN hX (mMeet_3 _ (by omega) (by omega)) dX4_ghosts_100 (q := 101) rfl ?_
                refine pw_istore hX (by decide) dX4_ghosts_101 (q := 103) rfl ?_
                refine pw_aload_n hX rfl dX4_ghosts_103 (q := 104) rfl ?_
                refine pw_cvV0 hX dX4_ghosts_104 (q := 107) rfl mi_X4_restores ml_X4_138 rcM ⟨rfl, rfl, by decide, by decide⟩ rfl (Nat.le_of_ble_eq_true rfl) (c_X4_restores) ?_
                refine pw_iload hX rfl dX4_ghosts_107 (q := 109) rfl ?_
                refine pw_ireturn hX dX4_ghosts_109 ⟨_, rfl, rfl⟩ ⟨congrArg (fun z => some (Value.int z)) ?_, ?_⟩
                · rw [mGhosts, if_pos ⟨h_5, h_13, hne, h_28⟩, hx, hxj, hxk, if_neg (fun z => z.elim h_39 h_47)]
                · exact ⟨vA V 4 S, sV_4 (sV_rf V) S, by rw [vA_s]⟩
              · refine pw_aload_n hX rfl dX4_ghosts_66 (q := 67) rfl ?_
                refine pw_cvI0 hX dX4_ghosts_67 (q := 70) rfl mi_X4_tickOne ml_X4_128 rcM ⟨rfl, rfl, by decide, by decide⟩ rfl (Nat.le_of_ble_eq_true rfl) (c_X4_tickOne (mTickI_b hB hW m (by omega)).1 (mTickI_b hB hW m (by omega)).2 (by rw [(mTickI_t h7 m).1]; omega)) ?_
                refine pw_pop hX rfl dX4_ghosts_70 (q := 71) rfl ?_
                refine pw_iinc hX rfl (by decide) (inc1 _) dX4_ghosts_71 (q := 74) rfl ?_
                refine pw_goto hX (tgt := 60) dX4_ghosts_74 (by decide) ?_
                exact pw_eq rfl rfl rfl (ih (by omega))
            · have h_47 := of_decide_eq_true h_47
              refine pw_ldc hX cn_X4_60 dX4_ghosts_50 (q := 52) rfl ?_
              refine pw_ireturn hX dX4_ghosts_52 ⟨_, rfl, rfl⟩ ⟨congrArg (fun z => some (Value.int z)) ?_, ?_⟩
              · rw [mGhosts, if_pos ⟨h_5, h_13, hne, h_28⟩, hx, hxj, if_pos (by first | exact Or.inl h_39 | exact Or.inr h_47)]
              · exact ⟨V, sV_rf V, rfl⟩
        · refine pw_ldc hX cn_X4_40 dX4_ghosts_31 (q := 33) rfl ?_
          refine pw_ireturn hX dX4_ghosts_33 ⟨_, rfl, rfl⟩ ⟨congrArg (fun z => some (Value.int z)) ?_, ?_⟩
          · rw [mGhosts, if_neg (by rintro ⟨a1, a2, a3, a4⟩; simp_all)]
          · exact ⟨V, sV_rf V, rfl⟩
abbrev rm_X4_bestMeeting : Room := { frames := 5, cells := 0, slots := 0, locals := 119 }
set_option maxHeartbeats 800000 in
set_option maxRecDepth 20000 in
theorem c_X4_bestMeeting {l : Launch} {g : Geo} {w : WD} {V : Nat → Nat → Nat} {S : Nat → Nat} {v : Int32} (hB : bS S) : CtE l g yX4_bestMeeting cX4_bestMeeting 7 (some .int) rm_X4_bestMeeting [.ref (g_ad g 9 0), .int v] (mW w V S) (mBM S v) (fun z => ∃ V1, sV V V1 ∧ z = mW w V1 S) := by
  refine ct_of mi_X4_bestMeeting.2.2.2.2.2 ⟨rfl, rfl⟩ (List.forall_mem_cons.mpr ⟨rfl, List.forall_mem_cons.mpr ⟨rfl, fun _ h => absurd h List.not_mem_nil⟩⟩) (Nat.le_of_ble_eq_true rfl) (fun P hX => ?_)
  replace hX : Gd l g RX4 cX4_bestMeeting rm_X4_bestMeeting 7 (some .int) _ _ P := hX
  show P (mW w V S) 0 [some (.ref (g_ad g 9 0)), some (.int v), none, none, none, none, none] []
  have h7 := hB.2.2.1
  refine pw_iload_n hX rfl dX4_bestMeeting_0 (q := 1) rfl ?_
  refine pw_iconst hX (k := 0) rfl (by decide) dX4_bestMeeting_1 (q := 2) rfl ?_
  refine pw_iconst hX (k := 1) rfl (by decide) dX4_bestMeeting_2 (q := 3) rfl ?_
  refine pw_csI3 hX dX4_bestMeeting_3 (q := 6) rfl mi_X4_in ml_X4_33 ⟨rfl, rfl, by decide, by decide⟩ rfl (Nat.le_of_ble_eq_true rfl) (c_X4_inN (by decide) (by decide)) ?_
  refine pw_ifB_ne hX (tgt := 12) dX4_bestMeeting_6 (q := 9) rfl (by decide) (fun h_6 => ?_) (fun h_6 => ?_)
  · obtain ⟨a, -, ha, rfl⟩ := inN_of (by decide) h_6
    have hxa : ix (nI a) = a := ix_nI (by omega)
    refine pw_ldc hX cn_X4_80 dX4_bestMeeting_12 (q := 14) rfl ?_
    refine pw_istore_n hX (by decide) dX4_bestMeeting_14 (q := 15) rfl ?_
    refine pw_iconstm hX dX4_bestMeeting_15 (q := 16) rfl ?_
    refine pw_istore_n hX (by decide) dX4_bestMeeting_16 (q := 17) rfl ?_
    refine pw_iconst hX (k := 0) rfl (by decide) dX4_bestMeeting_17 (q := 18) rfl ?_
    refine pw_istore hX (by decide) dX4_bestMeeting_18 (q := 20) rfl ?_
    suffices L : ∀ o, o ≤ S 0 → ∀ V1, sV V V1 → P (mW w V1 S) 20 [some (.ref (g_ad g 9 0)), some (.int (nI a)), some (.int (fv (bmO S o))), some (.int (bv (bmO S o).1)), some (.int (nI o)), none, none] [] by exact L 0 (Nat.zero_le _) V (sV_rf V)
    refine loopUp (fun o hoo ih => ?_)
    intro V1 hV1
    refine pw_iload hX rfl dX4_bestMeeting_20 (q := 22) rfl ?_
    refine pw_aload_n hX rfl dX4_bestMeeting_22 (q := 23) rfl ?_
    refine pw_getMS hX 0 (by decide) fl_X4_7 rfl dX4_bestMeeting_23 (q := 26) rfl ?_
    refine pw_iconst hX (k := 0) rfl (by decide) dX4_bestMeeting_26 (q := 27) rfl ?_
    refine pw_ialdS hX (by omega) dX4_bestMeeting_27 (q := 28) rfl ?_
    refine pw_icmpN_ge hX (by first | omega | exact bS0 hB | exact bSw hB (by omega) (by omega) (by omega) | exact bSe hB (by omega) (by omega) | exact bS1 hB | exact bS2 hB) (by first | omega | exact bS0 hB | exact bSw hB (by omega) (by omega) (by omega) | exact bSe hB (by omega) (by omega) | exact bS1 hB | exact bS2 hB) (tgt := 128) dX4_bestMeeting_28 (q := 31) rfl (by decide) (fun h_28 => ?_) (fun h_28 => ?_)
    · have e128 : o = S 0 := by omega
      subst e128
      have hbo := bmO_le S (S 0)
      refine pw_iload_n hX rfl dX4_bestMeeting_128 (q := 129) rfl ?_
      refine pw_ifN_eq hX (by first | omega | exact bS0 hB | exact bSw hB (by omega) (by omega) (by omega) | exact bSe hB (by omega) (by omega) | exact bS1 hB | exact bS2 hB) (tgt := 136) dX4_bestMeeting_129 (q := 132) rfl (by decide) (fun h_129 => ?_) (fun h_129 => ?_)
      · refine pw_iload_n hX rfl dX4_bestMeeting_136 (q := 137) rfl ?_
        refine pw_goto hX (tgt := 141) dX4_bestMeeting_137 (by decide) ?_
        refine pw_ireturn hX dX4_bestMeeting_141 ⟨_, rfl, rfl⟩ ⟨congrArg (fun z => some (Value.int z)) ?_, ?_⟩
        · rw [mBM, if_pos h_6, hxa]; first | (rw [if_pos (Or.inl h_129)]; done) | (rw [bv_ge (by omega)] at h_133; rw [if_neg (fun z => z.elim h_129 h_133)]; done) | (rw [bv_ge (by omega)] at h_133; rw [if_pos (Or.inr (by omega))]; done)
        · exact ⟨V1, hV1, rfl⟩
      · refine pw_iload_n hX rfl dX4_bestMeeting_132 (q := 133) rfl ?_
        refine pw_if_ge hX (tgt := 140) dX4_bestMeeting_133 (q := 136) rfl (by decide) (fun h_133 => ?_) (fun h_133 => ?_)
        · refine pw_iload_n hX rfl dX4_bestMeeting_140 (q := 141) rfl ?_
          refine pw_ireturn hX dX4_bestMeeting_141 ⟨_, rfl, rfl⟩ ⟨congrArg (fun z => some (Value.int z)) ?_, ?_⟩
          · rw [mBM, if_pos h_6, hxa]; first | (rw [if_pos (Or.inl h_129)]; done) | (rw [bv_ge (by omega)] at h_133; rw [if_neg (fun z => z.elim h_129 h_133)]; done) | (rw [bv_ge (by omega)] at h_133; rw [if_pos (Or.inr (by omega))]; done)
          · exact ⟨V1, hV1, rfl⟩
        · refine pw_iload_n hX rfl dX4_bestMeeting_136 (q := 137) rfl ?_
          refine pw_goto hX (tgt := 141) dX4_bestMeeting_137 (by decide) ?_
          refine pw_ireturn hX dX4_bestMeeting_141 ⟨_, rfl, rfl⟩ ⟨congrArg (fun z => some (Value.int z)) ?_, ?_⟩
          · rw [mBM, if_pos h_6, hxa]; first | (rw [if_pos (Or.inl h_129)]; done) | (rw [bv_ge (by omega)] at h_133; rw [if_neg (fun z => z.elim h_129 h_133)]; done) | (rw [bv_ge (by omega)] at h_133; rw [if_pos (Or.inr (by omega))]; done)
          · exact ⟨V1, hV1, rfl⟩
    · refine pw_iload hX rfl dX4_bestMeeting_31 (q := 33) rfl ?_
      refine pw_iconst hX (k := 1) rfl (by decide) dX4_bestMeeting_33 (q := 34) rfl ?_
      refine pw_iaddN hX dX4_bestMeeting_34 (q := 35) rfl ?_
      refine pw_istore hX (by decide) dX4_bestMeeting_35 (q := 37) rfl ?_
      suffices L2 : ∀ k, k ≤ S 0 - (o + 1) → ∀ V2, sV V V2 → P (mW w V2 S) 37 [some (.ref (g_ad g 9 0)), some (.int (nI a)), some (.int (fv (bmI S o (bmO S o) k))), some (.int (bv (bmI S o (bmO S o) k).1)), some (.int (nI o)), some (.int (nI (o + 1 + k))), none] [] by exact L2 0 (Nat.zero_le _) V1 hV1
      refine loopUp (fun k hk ih2 => ?_)
      intro V2 hV2
      have hb1 := bmI_le S o (bmO S o) (bmO_le S o) k
      have hb2 := mMt_n (mMeet0 S o (o + 1 + k)) o (o + 1 + k) 12
      have hb3 : (mMeet S o (o + 1 + k)).2 ≤ 12 := hb2
      refine pw_iload hX rfl dX4_bestMeeting_37 (q := 39) rfl ?_
      refine pw_aload_n hX rfl dX4_bestMeeting_39 (q := 40) rfl ?_
      refine pw_getMS hX 0 (by decide) fl_X4_7 rfl dX4_bestMeeting_40 (q := 43) rfl ?_
      refine pw_iconst hX (k := 0) rfl (by decide) dX4_bestMeeting_43 (q := 44) rfl ?_
      refine pw_ialdS hX (by omega) dX4_bestMeeting_44 (q := 45) rfl ?_
      refine pw_icmpN_ge hX (by first | omega | exact bS0 hB | exact bSw hB (by omega) (by omega) (by omega) | exact bSe hB (by omega) (by omega) | exact bS1 hB | exact bS2 hB) (by first | omega | exact bS0 hB | exact bSw hB (by omega) (by omega) (by omega) | exact bSe hB (by omega) (by omega) | exact bS1 hB | exact bS2 hB) (tgt := 122) dX4_bestMeeting_45 (q := 48) rfl (by decide) (fun h_45 => ?_) (fun h_45 => ?_)
      · refine pw_iinc hX rfl (by decide) (inc1 _) dX4_bestMeeting_122 (q := 125) rfl ?_
        refine pw_goto hX (tgt := 20) dX4_bestMeeting_125 (by decide) ?_
        have e37 : k = S 0 - (o + 1) := by omega
        subst e37
        exact pw_fg hX (lv' := [_, _, _, _, _, none, none]) (by repeat first | exact lle_nil | refine lle_cons ?_ | refine lle_none ?_) (pw_eq rfl rfl rfl (ih (by omega) V2 hV2))
      · refine pw_aload_n hX rfl dX4_bestMeeting_48 (q := 49) rfl ?_
        refine pw_iload hX rfl dX4_bestMeeting_49 (q := 51) rfl ?_
        refine pw_cvI1 hX dX4_bestMeeting_51 (q := 54) rfl mi_X4_isAwake ml_X4_57 rcM ⟨rfl, rfl, by decide, by decide⟩ rfl (Nat.le_of_ble_eq_true rfl) (c_X4_isAwake (by omega) hB) ?_
        refine pw_ifB_eq hX (tgt := 116) dX4_bestMeeting_54 (q := 57) rfl (by decide) (fun h_54 => ?_) (fun h_54 => ?_)
        · have h_54 := of_decide_eq_false h_54
          refine pw_iinc hX rfl (by decide) (inc1 _) dX4_bestMeeting_116 (q := 119) rfl ?_
          refine pw_goto hX (tgt := 37) dX4_bestMeeting_119 (by decide) ?_
          refine pw_fg hX (lv' := [some (.ref (g_ad g 9 0)), some (.int (nI a)), some (.int (fv (bmI S o (bmO S o) k))), some (.int (bv (bmI S o (bmO S o) k).1)), some (.int (nI o)), some (.int (nI (o + 1 + (k + 1)))), none]) (by repeat first | exact lle_nil | refine lle_cons ?_ | refine lle_none ?_) (pw_eq rfl ?_ rfl (ih2 (by omega) V2 hV2))
          rw [bmI_s]
          rw [bmS, if_neg (fun z => h_54 z.1)]
        · have h_54 := of_decide_eq_true h_54
          refine pw_aload_n hX rfl dX4_bestMeeting_57 (q := 58) rfl ?_
          refine pw_iload hX rfl dX4_bestMeeting_58 (q := 60) rfl ?_
          refine pw_cvI1 hX dX4_bestMeeting_60 (q := 63) rfl mi_X4_isAwake ml_X4_57 rcM ⟨rfl, rfl, by decide, by decide⟩ rfl (Nat.le_of_ble_eq_true rfl) (c_X4_isAwake (by omega) hB) ?_
          refine pw_ifB_eq hX (tgt := 116) dX4_bestMeeting_63 (q := 66) rfl (by decide) (fun h_63 => ?_) (fun h_63 => ?_)
          · have h_63 := of_decide_eq_false h_63
            refine pw_iinc hX rfl (by decide) (inc1 _) dX4_bestMeeting_116 (q := 119) rfl ?_
            refine pw_goto hX (tgt := 37) dX4_bestMeeting_119 (by decide) ?_
            refine pw_fg hX (lv' := [some (.ref (g_ad g 9 0)), some (.int (nI a)), some (.int (fv (bmI S o (bmO S o) k))), some (.int (bv (bmI S o (bmO S o) k).1)), some (.int (nI o)), some (.int (nI (o + 1 + (k + 1)))), none]) (by repeat first | exact lle_nil | refine lle_cons ?_ | refine lle_none ?_) (pw_eq rfl ?_ rfl (ih2 (by omega) V2 hV2))
            rw [bmI_s]
            rw [bmS, if_neg (fun z => h_63 z.2.1)]
          · have h_63 := of_decide_eq_true h_63
            refine pw_aload_n hX rfl dX4_bestMeeting_66 (q := 67) rfl ?_
            refine pw_cvV0 hX dX4_bestMeeting_67 (q := 70) rfl mi_X4_puts ml_X4_135 rcM ⟨rfl, rfl, by decide, by decide⟩ rfl (Nat.le_of_ble_eq_true rfl) (c_X4_puts) ?_
            refine pw_aload_n hX rfl dX4_bestMeeting_70 (q := 71) rfl ?_
            refine pw_iload hX rfl dX4_bestMeeting_71 (q := 73) rfl ?_
            refine pw_iload hX rfl dX4_bestMeeting_73 (q := 75) rfl ?_
            refine pw_cvI2 hX dX4_bestMeeting_75 (q := 78) rfl mi_X4_meets ml_X4_114 rcM ⟨rfl, rfl, by decide, by decide⟩ rfl (Nat.le_of_ble_eq_true rfl) (c_X4_meets (by omega) (by omega) hB) ?_
            refine pw_istore hX (by decide) dX4_bestMeeting_78 (q := 80) rfl ?_
            refine pw_aload_n hX rfl dX4_bestMeeting_80 (q := 81) rfl ?_
            refine pw_cvV0 hX dX4_bestMeeting_81 (q := 84) rfl mi_X4_restores ml_X4_138 rcM ⟨rfl, rfl, by decide, by decide⟩ rfl (Nat.le_of_ble_eq_true rfl) (c_X4_restores) ?_
            rw [vA_s]
            refine pw_iload hX rfl dX4_bestMeeting_84 (q := 86) rfl ?_
            refine pw_iload_n hX rfl dX4_bestMeeting_86 (q := 87) rfl ?_
            refine pw_icmp_le hX (tgt := 101) dX4_bestMeeting_87 (q := 90) rfl (by decide) (fun h_87 => ?_) (fun h_87 => ?_)
            · rw [bv_le (by omega) (by omega)] at h_87
              refine pw_iload_n hX rfl dX4_bestMeeting_101 (q := 102) rfl ?_
              refine pw_istore_n hX (by decide) dX4_bestMeeting_102 (q := 103) rfl ?_
              refine pw_iload hX rfl dX4_bestMeeting_103 (q := 105) rfl ?_
              refine pw_iload_n hX rfl dX4_bestMeeting_105 (q := 106) rfl ?_
              refine pw_icmp_le hX (tgt := 114) dX4_bestMeeting_106 (q := 109) rfl (by decide) (fun h_106 => ?_) (fun h_106 => ?_)
              · rw [bv_le (by omega) (by omega)] at h_106
                refine pw_iload_n hX rfl dX4_bestMeeting_114 (q := 115) rfl ?_
                refine pw_istore_n hX (by decide) dX4_bestMeeting_115 (q := 116) rfl ?_
                refine pw_iinc hX rfl (by decide) (inc1 _) dX4_bestMeeting_116 (q := 119) rfl ?_
                refine pw_goto hX (tgt := 37) dX4_bestMeeting_119 (by decide) ?_
                refine pw_fg hX (lv' := [some (.ref (g_ad g 9 0)), some (.int (nI a)), some (.int (fv (bmI S o (bmO S o) k))), some (.int (bv (bmI S o (bmO S o) k).1)), some (.int (nI o)), some (.int (nI (o + 1 + (k + 1)))), none]) (by repeat first | exact lle_nil | refine lle_cons ?_ | refine lle_none ?_) (pw_eq rfl ?_ rfl (ih2 (by omega) _ (sV_4 hV2 S)))
                rw [bmI_s]
                rw [bmS, if_neg (by omega)]
              · rw [bv_le (by omega) (by omega)] at h_106
                refine pw_iload hX rfl dX4_bestMeeting_109 (q := 111) rfl ?_
                refine pw_goto hX (tgt := 115) dX4_bestMeeting_111 (by decide) ?_
                refine pw_istore_n hX (by decide) dX4_bestMeeting_115 (q := 116) rfl ?_
                refine pw_iinc hX rfl (by decide) (inc1 _) dX4_bestMeeting_116 (q := 119) rfl ?_
                refine pw_goto hX (tgt := 37) dX4_bestMeeting_119 (by decide) ?_
                exact absurd h_87 h_106
            · rw [bv_le (by omega) (by omega)] at h_87
              refine pw_bipush hX (k := 10) (by decide) dX4_bestMeeting_90 (q := 92) rfl ?_
              refine pw_iload hX rfl dX4_bestMeeting_92 (q := 94) rfl ?_
              refine pw_imulN hX dX4_bestMeeting_94 (q := 95) rfl ?_
              refine pw_iload hX rfl dX4_bestMeeting_95 (q := 97) rfl ?_
              refine pw_iaddN hX dX4_bestMeeting_97 (q := 98) rfl ?_
              refine pw_goto hX (tgt := 102) dX4_bestMeeting_98 (by decide) ?_
              refine pw_istore_n hX (by decide) dX4_bestMeeting_102 (q := 103) rfl ?_
              refine pw_iload hX rfl dX4_bestMeeting_103 (q := 105) rfl ?_
              refine pw_iload_n hX rfl dX4_bestMeeting_105 (q := 106) rfl ?_
              refine pw_icmp_le hX (tgt := 114) dX4_bestMeeting_106 (q := 109) rfl (by decide) (fun h_106 => ?_) (fun h_106 => ?_)
              · rw [bv_le (by omega) (by omega)] at h_106
                refine pw_iload_n hX rfl dX4_bestMeeting_114 (q := 115) rfl ?_
                refine pw_istore_n hX (by decide) dX4_bestMeeting_115 (q := 116) rfl ?_
                refine pw_iinc hX rfl (by decide) (inc1 _) dX4_bestMeeting_116 (q := 119) rfl ?_
                refine pw_goto hX (tgt := 37) dX4_bestMeeting_119 (by decide) ?_
                exact absurd h_106 h_87
              · rw [bv_le (by omega) (by omega)] at h_106
                refine pw_iload hX rfl dX4_bestMeeting_109 (q := 111) rfl ?_
                refine pw_goto hX (tgt := 115) dX4_bestMeeting_111 (by decide) ?_
                refine pw_istore_n hX (by decide) dX4_bestMeeting_115 (q := 116) rfl ?_
                refine pw_iinc hX rfl (by decide) (inc1 _) dX4_bestMeeting_116 (q := 119) rfl ?_
                refine pw_goto hX (tgt := 37) dX4_bestMeeting_119 (by decide) ?_
                refine pw_fg hX (lv' := [some (.ref (g_ad g 9 0)), some (.int (nI a)), some (.int (nI (10 * o + (o + 1 + k)))), some (.int (nI (mMeet S o (o + 1 + k)).2)), some (.int (nI o)), some (.int (nI (o + 1 + (k + 1)))), none]) (by repeat first | exact lle_nil | refine lle_cons ?_ | refine lle_none ?_) (pw_eq rfl ?_ rfl (ih2 (by omega) _ (sV_4 hV2 S)))
                rw [bmI_s]
                rw [bmS, if_pos ⟨h_54, h_63, by omega⟩, fv_s, bv_s]
  · refine pw_ldc hX cn_X4_40 dX4_bestMeeting_9 (q := 11) rfl ?_
    refine pw_ireturn hX dX4_bestMeeting_11 ⟨_, rfl, rfl⟩ ⟨congrArg (fun z => some (Value.int z)) ?_, ?_⟩
    · rw [mBM, if_neg (by simp [h_6])]
    · exact ⟨V, sV_rf V, rfl⟩
abbrev rm_X4_awakeBehind : Room := { frames := 2, cells := 0, slots := 0, locals := 43 }
set_option maxHeartbeats 800000 in
set_option maxRecDepth 20000 in
theorem c_X4_awakeBehind {l : Launch} {g : Geo} {w : WD} {V : Nat → Nat → Nat} {S : Nat → Nat} {v : Int32} {k : Nat} (hv : v + nI 1 = nI k) (hk : k ≤ 9) (hB : bS S) : CtI l g yX4_awakeBehind cX4_awakeBehind 3 (some .int) rm_X4_awakeBehind [.ref (g_ad g 9 0), .int v] (mW w V S) (nI (mNx S k)) (mW w V S) := by
  refine ct_of mi_X4_awakeBehind.2.2.2.2.2 ⟨rfl, rfl⟩ (List.forall_mem_cons.mpr ⟨rfl, List.forall_mem_cons.mpr ⟨rfl, fun _ h => absurd h List.not_mem_nil⟩⟩) (Nat.le_of_ble_eq_true rfl) (fun P hX => ?_)
  replace hX : Gd l g RX4 cX4_awakeBehind rm_X4_awakeBehind 3 (some .int) _ _ P := hX
  show P (mW w V S) 0 [some (.ref (g_ad g 9 0)), some (.int v), none] []
  have h7 := hB.2.2.1
  refine pw_iload_n hX rfl dX4_awakeBehind_0 (q := 1) rfl ?_
  refine pw_iconst hX (k := 1) rfl (by decide) dX4_awakeBehind_1 (q := 2) rfl ?_
  refine pw_iadd hX dX4_awakeBehind_2 (q := 3) rfl ?_
  rw [hv]
  refine pw_istore_n hX (by decide) dX4_awakeBehind_3 (q := 4) rfl ?_
  suffices L : ∀ i, i ≤ S 0 → mNx S (k + i) = mNx S k → P (mW w V S) 4 [some (.ref (g_ad g 9 0)), some (.int v), some (.int (nI (k + i)))] [] by exact L 0 (Nat.zero_le _) rfl
  refine loopUp (fun i hi ih => ?_)
  intro hix
  refine pw_iload_n hX rfl dX4_awakeBehind_4 (q := 5) rfl ?_
  refine pw_aload_n hX rfl dX4_awakeBehind_5 (q := 6) rfl ?_
  refine pw_getMS hX 0 (by decide) fl_X4_7 rfl dX4_awakeBehind_6 (q := 9) rfl ?_
  refine pw_iconst hX (k := 0) rfl (by decide) dX4_awakeBehind_9 (q := 10) rfl ?_
  refine pw_ialdS hX (by omega) dX4_awakeBehind_10 (q := 11) rfl ?_
  refine pw_icmpN_ge hX (by first | omega | exact bS0 hB | exact bSw hB (by omega) (by omega) (by omega) | exact bSe hB (by omega) (by omega) | exact bS1 hB | exact bS2 hB) (by first | omega | exact bS0 hB | exact bSw hB (by omega) (by omega) (by omega) | exact bSe hB (by omega) (by omega) | exact bS1 hB | exact bS2 hB) (tgt := 28) dX4_awakeBehind_11 (q := 14) rfl (by decide) (fun h_11 => ?_) (fun h_11 => ?_)
  · refine pw_iload_n hX rfl dX4_awakeBehind_28 (q := 29) rfl ?_
    refine pw_ireturn hX dX4_awakeBehind_29 ⟨_, rfl, rfl⟩ ⟨congrArg (fun z => some (Value.int z)) ?_, ?_⟩
    · rw [← hix, mNx_e (fun z => by first | exact z.2 h_19 | omega)]
    · rfl
  · refine pw_aload_n hX rfl dX4_awakeBehind_14 (q := 15) rfl ?_
    refine pw_iload_n hX rfl dX4_awakeBehind_15 (q := 16) rfl ?_
    refine pw_cvI1 hX dX4_awakeBehind_16 (q := 19) rfl mi_X4_isAwake ml_X4_57 rcM ⟨rfl, rfl, by decide, by decide⟩ rfl (Nat.le_of_ble_eq_true rfl) (c_X4_isAwake (by first | assumption | omega) (by first | assumption | omega)) ?_
    refine pw_ifB_ne hX (tgt := 28) dX4_awakeBehind_19 (q := 22) rfl (by decide) (fun h_19 => ?_) (fun h_19 => ?_)
    · have h_19 := of_decide_eq_true h_19
      refine pw_iload_n hX rfl dX4_awakeBehind_28 (q := 29) rfl ?_
      refine pw_ireturn hX dX4_awakeBehind_29 ⟨_, rfl, rfl⟩ ⟨congrArg (fun z => some (Value.int z)) ?_, ?_⟩
      · rw [← hix, mNx_e (fun z => by first | exact z.2 h_19 | omega)]
      · rfl
    · have h_19 := of_decide_eq_false h_19
      refine pw_iinc hX rfl (by decide) (inc1 _) dX4_awakeBehind_22 (q := 25) rfl ?_
      refine pw_goto hX (tgt := 4) dX4_awakeBehind_25 (by decide) ?_
      exact ih (by omega) (by rw [show k + (i + 1) = k + i + 1 by omega, mNx_s (by omega) h_19, hix])
abbrev rm_X4_areAllSame : Room := { frames := 4, cells := 0, slots := 0, locals := 90 }
set_option maxHeartbeats 800000 in
set_option maxRecDepth 20000 in
theorem c_X4_areAllSame {l : Launch} {g : Geo} {w : WD} {V : Nat → Nat → Nat} {S : Nat → Nat} (hB : bS S) : CtI l g yX4_areAllSame cX4_areAllSame 5 (some .boolean) rm_X4_areAllSame [.ref (g_ad g 9 0)] (mW w V S) (bI (mAll S)) (mW w V S) := by
  refine ct_of mi_X4_areAllSame.2.2.2.2.2 ⟨rfl, rfl⟩ (List.forall_mem_cons.mpr ⟨rfl, fun _ h => absurd h List.not_mem_nil⟩) (Nat.le_of_ble_eq_true rfl) (fun P hX => ?_)
  replace hX : Gd l g RX4 cX4_areAllSame rm_X4_areAllSame 5 (some .boolean) _ _ P := hX
  show P (mW w V S) 0 [some (.ref (g_ad g 9 0)), none, none, none, none] []
  have h7 := hB.2.2.1
  refine pw_aload_n hX rfl dX4_areAllSame_0 (q := 1) rfl ?_
  refine pw_iconstm hX dX4_areAllSame_1 (q := 2) rfl ?_
  refine pw_cvI1 hX dX4_areAllSame_2 (q := 5) rfl mi_X4_awakeBehind ml_X4_141 rcM ⟨rfl, rfl, by decide, by decide⟩ rfl (Nat.le_of_ble_eq_true rfl) (c_X4_awakeBehind (k := 0) (by decide) (by decide) hB) ?_
  refine pw_istore_n hX (by decide) dX4_areAllSame_5 (q := 6) rfl ?_
  refine pw_iconst hX (k := 1) rfl (by decide) dX4_areAllSame_6 (q := 7) rfl ?_
  refine pw_istore_n hX (by decide) dX4_areAllSame_7 (q := 8) rfl ?_
  refine pw_aload_n hX rfl dX4_areAllSame_8 (q := 9) rfl ?_
  refine pw_iload_n hX rfl dX4_areAllSame_9 (q := 10) rfl ?_
  refine pw_cvI1 hX dX4_areAllSame_10 (q := 13) rfl mi_X4_awakeBehind ml_X4_141 rcM ⟨rfl, rfl, by decide, by decide⟩ rfl (Nat.le_of_ble_eq_true rfl) (c_X4_awakeBehind (k := mNx S 0 + 1) (nI_add _ _) (by have := mNx_le S (k := 0) (by omega); omega) hB) ?_
  refine pw_istore_n hX (by decide) dX4_areAllSame_13 (q := 14) rfl ?_
  have hf1 := mNx_le S (k := 0) (by omega)
  suffices L : ∀ i, i ≤ S 0 + 1 → ∀ (v : Nat) (is : Bool), i ≤ v → mNx S 0 ≤ v → v ≤ S 0 + 2 → mAllF S (mNx S 0) (S 0 + 1 - i) v is = mAll S → P (mW w V S) 14 [some (.ref (g_ad g 9 0)), some (.int (nI (mNx S 0))), some (.int (bI is)), some (.int (nI v)), none] [] by exact L 0 (Nat.zero_le _) _ true (Nat.zero_le _) (by have := mNx_ge S (mNx S 0 + 1); omega) (mNx_l2 S (by omega)) rfl
  refine loopUp (fun i hi ih => ?_)
  intro v is hiv hfv hv2 hall
  refine pw_iload_n hX rfl dX4_areAllSame_14 (q := 15) rfl ?_
  refine pw_aload_n hX rfl dX4_areAllSame_15 (q := 16) rfl ?_
  refine pw_getMS hX 0 (by decide) fl_X4_7 rfl dX4_areAllSame_16 (q := 19) rfl ?_
  refine pw_iconst hX (k := 0) rfl (by decide) dX4_areAllSame_19 (q := 20) rfl ?_
  refine pw_ialdS hX (by omega) dX4_areAllSame_20 (q := 21) rfl ?_
  refine pw_icmpN_ge hX (by first | omega | exact bS0 hB | exact bSw hB (by omega) (by omega) (by omega) | exact bSe hB (by omega) (by omega) | exact bS1 hB | exact bS2 hB) (by first | omega | exact bS0 hB | exact bSw hB (by omega) (by omega) (by omega) | exact bSe hB (by omega) (by omega) | exact bS1 hB | exact bS2 hB) (tgt := 70) dX4_areAllSame_21 (q := 24) rfl (by decide) (fun h_21 => ?_) (fun h_21 => ?_)
  · refine pw_iload_n hX rfl dX4_areAllSame_70 (q := 71) rfl ?_
    refine pw_ireturn hX dX4_areAllSame_71 ⟨_, rfl, by first | exact bI_nar _ | decide | rfl⟩ ⟨congrArg (fun z => some (Value.int z)) ?_, ?_⟩
    · rw [← hall]; rcases Nat.eq_or_lt_of_le hi with e | e
      · rw [e, Nat.sub_self]; rfl
      · rw [show S 0 + 1 - i = (S 0 + 1 - (i + 1)) + 1 by omega]; exact congrArg bI (if_neg (by omega)).symm
    · rfl
  · refine pw_iconst hX (k := 0) rfl (by decide) dX4_areAllSame_24 (q := 25) rfl ?_
    refine pw_istore hX (by decide) dX4_areAllSame_25 (q := 27) rfl ?_
    suffices L2 : ∀ t, t ≤ 12 → P (mW w V S) 27 [some (.ref (g_ad g 9 0)), some (.int (nI (mNx S 0))), some (.int (bI (is && allT S (mNx S 0) v t))), some (.int (nI v)), some (.int (nI t))] [] by exact pw_eq rfl (by rw [show (is && allT S (mNx S 0) v 0) = is from Bool.and_true is]; rfl) rfl (L2 0 (Nat.zero_le _))
    refine loopUp (fun t ht ih2 => ?_)
    refine pw_iload hX rfl dX4_areAllSame_27 (q := 29) rfl ?_
    refine pw_bipush hX (k := 12) (by decide) dX4_areAllSame_29 (q := 31) rfl ?_
    refine pw_icmpN_ge hX (by first | omega | exact bS0 hB | exact bSw hB (by omega) (by omega) (by omega) | exact bSe hB (by omega) (by omega) | exact bS1 hB | exact bS2 hB) (by first | omega | exact bS0 hB | exact bSw hB (by omega) (by omega) (by omega) | exact bSe hB (by omega) (by omega) | exact bS1 hB | exact bS2 hB) (tgt := 61) dX4_areAllSame_31 (q := 34) rfl (by decide) (fun h_31 => ?_) (fun h_31 => ?_)
    · rw [show t = 12 by omega]
      refine pw_aload_n hX rfl dX4_areAllSame_61 (q := 62) rfl ?_
      refine pw_iload_n hX rfl dX4_areAllSame_62 (q := 63) rfl ?_
      refine pw_cvI1 hX dX4_areAllSame_63 (q := 66) rfl mi_X4_awakeBehind ml_X4_141 rcM ⟨rfl, rfl, by decide, by decide⟩ rfl (Nat.le_of_ble_eq_true rfl) (c_X4_awakeBehind (k := v + 1) (nI_add _ _) (by omega) hB) ?_
      refine pw_istore_n hX (by decide) dX4_areAllSame_66 (q := 67) rfl ?_
      refine pw_goto hX (tgt := 14) dX4_areAllSame_67 (by decide) ?_
      exact pw_fg hX (lv' := [_, _, _, _, none]) (by repeat first | exact lle_nil | refine lle_cons ?_ | refine lle_none ?_) (ih (by omega) _ (is && allT S (mNx S 0) v 12) (by have := mNx_ge S (v + 1); omega) (by have := mNx_ge S (v + 1); omega) (mNx_l2 S (by omega)) (by rw [← hall, show S 0 + 1 - i = (S 0 + 1 - (i + 1)) + 1 by omega]; exact (if_pos h_21).symm))
    · refine pw_iload_n hX rfl dX4_areAllSame_34 (q := 35) rfl ?_
      refine pw_ifB_eq hX (tgt := 53) dX4_areAllSame_35 (q := 38) rfl (by decide) (fun h_35 => ?_) (fun h_35 => ?_)
      · refine pw_iconst hX (k := 0) rfl (by decide) dX4_areAllSame_53 (q := 54) rfl ?_
        refine pw_istore_n hX (by decide) dX4_areAllSame_54 (q := 55) rfl ?_
        refine pw_iinc hX rfl (by decide) (inc1 _) dX4_areAllSame_55 (q := 58) rfl ?_
        refine pw_goto hX (tgt := 27) dX4_areAllSame_58 (by decide) ?_
        exact pw_eq rfl (congrArg (fun z => [some (Value.ref (g_ad g 9 0)), some (Value.int (nI (mNx S 0))), some (Value.int z), some (Value.int (nI v)), some (Value.int (nI (t + 1)))]) (show _ = bI (is && (allT S (mNx S 0) v t && mSame S (mNx S 0) v t)) from by rw [← Bool.and_assoc]; first | (rw [h_35]; rfl) | (rw [h_35, h_46]; rfl))) rfl (ih2 (by omega))
      · refine pw_aload_n hX rfl dX4_areAllSame_38 (q := 39) rfl ?_
        refine pw_iload_n hX rfl dX4_areAllSame_39 (q := 40) rfl ?_
        refine pw_iload_n hX rfl dX4_areAllSame_40 (q := 41) rfl ?_
        refine pw_iload hX rfl dX4_areAllSame_41 (q := 43) rfl ?_
        refine pw_cvI3 hX dX4_areAllSame_43 (q := 46) rfl mi_X4_areSame ml_X4_111 rcM ⟨rfl, rfl, by decide, by decide⟩ rfl (Nat.le_of_ble_eq_true rfl) (c_X4_areSame (by omega) (by omega) (by omega) hB) ?_
        refine pw_ifB_eq hX (tgt := 53) dX4_areAllSame_46 (q := 49) rfl (by decide) (fun h_46 => ?_) (fun h_46 => ?_)
        · refine pw_iconst hX (k := 0) rfl (by decide) dX4_areAllSame_53 (q := 54) rfl ?_
          refine pw_istore_n hX (by decide) dX4_areAllSame_54 (q := 55) rfl ?_
          refine pw_iinc hX rfl (by decide) (inc1 _) dX4_areAllSame_55 (q := 58) rfl ?_
          refine pw_goto hX (tgt := 27) dX4_areAllSame_58 (by decide) ?_
          exact pw_eq rfl (congrArg (fun z => [some (Value.ref (g_ad g 9 0)), some (Value.int (nI (mNx S 0))), some (Value.int z), some (Value.int (nI v)), some (Value.int (nI (t + 1)))]) (show _ = bI (is && (allT S (mNx S 0) v t && mSame S (mNx S 0) v t)) from by rw [← Bool.and_assoc]; first | (rw [h_35]; rfl) | (rw [h_35, h_46]; rfl))) rfl (ih2 (by omega))
        · refine pw_iconst hX (k := 1) rfl (by decide) dX4_areAllSame_49 (q := 50) rfl ?_
          refine pw_goto hX (tgt := 54) dX4_areAllSame_50 (by decide) ?_
          refine pw_istore_n hX (by decide) dX4_areAllSame_54 (q := 55) rfl ?_
          refine pw_iinc hX rfl (by decide) (inc1 _) dX4_areAllSame_55 (q := 58) rfl ?_
          refine pw_goto hX (tgt := 27) dX4_areAllSame_58 (by decide) ?_
          exact pw_eq rfl (congrArg (fun z => [some (Value.ref (g_ad g 9 0)), some (Value.int (nI (mNx S 0))), some (Value.int z), some (Value.int (nI v)), some (Value.int (nI (t + 1)))]) (show _ = bI (is && (allT S (mNx S 0) v t && mSame S (mNx S 0) v t)) from by rw [← Bool.and_assoc]; first | (rw [h_35]; rfl) | (rw [h_35, h_46]; rfl))) rfl (ih2 (by omega))
abbrev rm_X4_round : Room := { frames := 5, cells := 0, slots := 0, locals := 119 }
set_option maxHeartbeats 800000 in
set_option maxRecDepth 20000 in
theorem c_X4_round {l : Launch} {g : Geo} {w : WD} {V : Nat → Nat → Nat} {S : Nat → Nat} (hB : bS S) : CtV l g yX4_round cX4_round 4 none rm_X4_round [.ref (g_ad g 9 0)] (mW w V S) (mW w V (mRound S)) := by
  refine ct_of mi_X4_round.2.2.2.2.2 ⟨rfl, rfl⟩ (List.forall_mem_cons.mpr ⟨rfl, fun _ h => absurd h List.not_mem_nil⟩) (Nat.le_of_ble_eq_true rfl) (fun P hX => ?_)
  replace hX : Gd l g RX4 cX4_round rm_X4_round 4 none _ _ P := hX
  show P (mW w V S) 0 [some (.ref (g_ad g 9 0)), none, none, none] []
  have h7 := hB.2.2.1
  refine pw_aload_n hX rfl dX4_round_0 (q := 1) rfl ?_
  refine pw_iconstm hX dX4_round_1 (q := 2) rfl ?_
  refine pw_cvI1 hX dX4_round_2 (q := 5) rfl mi_X4_awakeBehind ml_X4_141 rcM ⟨rfl, rfl, by decide, by decide⟩ rfl (Nat.le_of_ble_eq_true rfl) (c_X4_awakeBehind (k := 0) (by decide) (by decide) hB) ?_
  refine pw_istore_n hX (by decide) dX4_round_5 (q := 6) rfl ?_
  refine pw_iload_n hX rfl dX4_round_6 (q := 7) rfl ?_
  refine pw_istore_n hX (by decide) dX4_round_7 (q := 8) rfl ?_
  have hf1 := mNx_le S (k := 0) (by omega)
  suffices L : ∀ i, i ≤ S 0 + 1 → ∀ (S1 : Nat → Nat) (v : Nat), bS S1 → S1 0 = S 0 → i ≤ v → mNx S 0 ≤ v → v ≤ S 0 + 2 → mRdF (mNx S 0) (S 0 + 1 - i) S1 v = mRound S → P (mW w V S1) 8 [some (.ref (g_ad g 9 0)), some (.int (nI (mNx S 0))), some (.int (nI v)), none] [] by exact L 0 (Nat.zero_le _) S _ hB rfl (Nat.zero_le _) (Nat.le_refl _) (by omega) rfl
  refine loopUp (fun i hi ih => ?_)
  intro S1 v hB1 h0 hiv hfv hv2 hall
  have h71 := hB1.2.2.1
  refine pw_iload_n hX rfl dX4_round_8 (q := 9) rfl ?_
  refine pw_aload_n hX rfl dX4_round_9 (q := 10) rfl ?_
  refine pw_getMS hX 0 (by decide) fl_X4_7 rfl dX4_round_10 (q := 13) rfl ?_
  refine pw_iconst hX (k := 0) rfl (by decide) dX4_round_13 (q := 14) rfl ?_
  refine pw_ialdS hX (by omega) dX4_round_14 (q := 15) rfl ?_
  refine pw_icmpN_ge hX (by first | omega | exact bS0 hB1 | (have := mNx_l2 S1 (k := v + 1) (by omega); omega) | (unfold mMany; have := cnt_le (fun v => decide (S1 (5 + 4 * v + 0) = 0)) (S1 0); omega)) (by first | omega | exact bS0 hB1 | (have := mNx_l2 S1 (k := v + 1) (by omega); omega) | (unfold mMany; have := cnt_le (fun v => decide (S1 (5 + 4 * v + 0) = 0)) (S1 0); omega)) (tgt := 69) dX4_round_15 (q := 18) rfl (by decide) (fun h_15 => ?_) (fun h_15 => ?_)
  · refine pw_return hX dX4_round_69 rfl ⟨rfl, ?_⟩
    refine mW_eS ?_; rw [← hall]; rcases Nat.eq_or_lt_of_le hi with e | e
    · rw [e, Nat.sub_self]; rfl
    · rw [show S 0 + 1 - i = (S 0 + 1 - (i + 1)) + 1 by omega]; exact (if_neg (by omega)).symm
  · refine pw_aload_n hX rfl dX4_round_18 (q := 19) rfl ?_
    refine pw_iload_n hX rfl dX4_round_19 (q := 20) rfl ?_
    refine pw_cvI1 hX dX4_round_20 (q := 23) rfl mi_X4_awakeBehind ml_X4_141 rcM ⟨rfl, rfl, by decide, by decide⟩ rfl (Nat.le_of_ble_eq_true rfl) (c_X4_awakeBehind (k := v + 1) (nI_add _ _) (by omega) hB1) ?_
    refine pw_istore_n hX (by decide) dX4_round_23 (q := 24) rfl ?_
    refine pw_iload_n hX rfl dX4_round_24 (q := 25) rfl ?_
    refine pw_aload_n hX rfl dX4_round_25 (q := 26) rfl ?_
    refine pw_getMS hX 0 (by decide) fl_X4_7 rfl dX4_round_26 (q := 29) rfl ?_
    refine pw_iconst hX (k := 0) rfl (by decide) dX4_round_29 (q := 30) rfl ?_
    refine pw_ialdS hX (by omega) dX4_round_30 (q := 31) rfl ?_
    refine pw_icmpN_ge hX (by first | omega | exact bS0 hB1 | (have := mNx_l2 S1 (k := v + 1) (by omega); omega) | (unfold mMany; have := cnt_le (fun v => decide (S1 (5 + 4 * v + 0) = 0)) (S1 0); omega)) (by first | omega | exact bS0 hB1 | (have := mNx_l2 S1 (k := v + 1) (by omega); omega) | (unfold mMany; have := cnt_le (fun v => decide (S1 (5 + 4 * v + 0) = 0)) (S1 0); omega)) (tgt := 44) dX4_round_31 (q := 34) rfl (by decide) (fun h_31 => ?_) (fun h_31 => ?_)
    · refine pw_aload_n hX rfl dX4_round_44 (q := 45) rfl ?_
      refine pw_iconst hX (k := 0) rfl (by decide) dX4_round_45 (q := 46) rfl ?_
      refine pw_cvI1 hX dX4_round_46 (q := 49) rfl mi_X4_many ml_X4_61 rcM ⟨rfl, rfl, by decide, by decide⟩ rfl (Nat.le_of_ble_eq_true rfl) (c_X4_many (by decide) hB1) ?_
      refine pw_iconst hX (k := 2) rfl (by decide) dX4_round_49 (q := 50) rfl ?_
      refine pw_icmpN_le hX (by first | omega | exact bS0 hB1 | (have := mNx_l2 S1 (k := v + 1) (by omega); omega) | (unfold mMany; have := cnt_le (fun v => decide (S1 (5 + 4 * v + 0) = 0)) (S1 0); omega)) (by first | omega | exact bS0 hB1 | (have := mNx_l2 S1 (k := v + 1) (by omega); omega) | (unfold mMany; have := cnt_le (fun v => decide (S1 (5 + 4 * v + 0) = 0)) (S1 0); omega)) (tgt := 60) dX4_round_50 (q := 53) rfl (by decide) (fun h_50 => ?_) (fun h_50 => ?_)
      · refine pw_aload_n hX rfl dX4_round_60 (q := 61) rfl ?_
        refine pw_iload_n hX rfl dX4_round_61 (q := 62) rfl ?_
        refine pw_cvI1 hX dX4_round_62 (q := 65) rfl mi_X4_awakeBehind ml_X4_141 rcM ⟨rfl, rfl, by decide, by decide⟩ rfl (Nat.le_of_ble_eq_true rfl) (c_X4_awakeBehind (k := v + 1) (nI_add _ _) (by omega) hB1) ?_
        refine pw_istore_n hX (by decide) dX4_round_65 (q := 66) rfl ?_
        refine pw_goto hX (tgt := 8) dX4_round_66 (by decide) ?_
        exact pw_fg hX (lv' := [_, _, _, none]) (by repeat first | exact lle_nil | refine lle_cons ?_ | refine lle_none ?_) (ih (by omega) _ _ hB1 h0 (by have := mNx_ge S1 (v + 1); omega) (by have := mNx_ge S1 (v + 1); omega) (by have h8 := mNx_l2 S1 (k := v + 1) (by rw [h0]; omega); rw [h0] at h8; exact h8) (by rw [← hall, show S 0 + 1 - i = (S 0 + 1 - (i + 1)) + 1 by omega]; refine Eq.trans ?_ (if_pos h_15).symm; rw [mRdS, if_neg (by omega), if_neg (by omega)]))
      · refine pw_aload_n hX rfl dX4_round_53 (q := 54) rfl ?_
        refine pw_iload_n hX rfl dX4_round_54 (q := 55) rfl ?_
        refine pw_iload_n hX rfl dX4_round_55 (q := 56) rfl ?_
        refine pw_cvI2 hX dX4_round_56 (q := 59) rfl mi_X4_meets ml_X4_114 rcM ⟨rfl, rfl, by decide, by decide⟩ rfl (Nat.le_of_ble_eq_true rfl) (c_X4_meets (by omega) (by omega) hB1) ?_
        refine pw_pop hX rfl dX4_round_59 (q := 60) rfl ?_
        refine pw_aload_n hX rfl dX4_round_60 (q := 61) rfl ?_
        refine pw_iload_n hX rfl dX4_round_61 (q := 62) rfl ?_
        refine pw_cvI1 hX dX4_round_62 (q := 65) rfl mi_X4_awakeBehind ml_X4_141 rcM ⟨rfl, rfl, by decide, by decide⟩ rfl (Nat.le_of_ble_eq_true rfl) (c_X4_awakeBehind (k := v + 1) (nI_add _ _) (by omega) (bS_Meet hB1 (by omega) (by omega))) ?_
        refine pw_istore_n hX (by decide) dX4_round_65 (q := 66) rfl ?_
        refine pw_goto hX (tgt := 8) dX4_round_66 (by decide) ?_
        exact pw_fg hX (lv' := [_, _, _, none]) (by repeat first | exact lle_nil | refine lle_cons ?_ | refine lle_none ?_) (ih (by omega) _ _ (bS_Meet hB1 (by omega) (by omega)) ((mMeet_lo S1 (by omega) (by omega) (by decide) (by decide) (by decide)).trans h0) (by have := mNx_ge (mMeet S1 v (mNx S 0)).1 (v + 1); omega) (by have := mNx_ge (mMeet S1 v (mNx S 0)).1 (v + 1); omega) (by have h8 := mNx_l2 (mMeet S1 v (mNx S 0)).1 (k := v + 1) (by rw [((mMeet_lo S1 (by omega) (by omega) (by decide) (by decide) (by decide)).trans h0)]; omega); rw [((mMeet_lo S1 (by omega) (by omega) (by decide) (by decide) (by decide)).trans h0)] at h8; exact h8) (by rw [← hall, show S 0 + 1 - i = (S 0 + 1 - (i + 1)) + 1 by omega]; refine Eq.trans ?_ (if_pos h_15).symm; rw [mRdS, if_neg (by omega), if_pos h_50]))
    · refine pw_aload_n hX rfl dX4_round_34 (q := 35) rfl ?_
      refine pw_iload_n hX rfl dX4_round_35 (q := 36) rfl ?_
      refine pw_iload_n hX rfl dX4_round_36 (q := 37) rfl ?_
      refine pw_cvI2 hX dX4_round_37 (q := 40) rfl mi_X4_meets ml_X4_114 rcM ⟨rfl, rfl, by decide, by decide⟩ rfl (Nat.le_of_ble_eq_true rfl) (c_X4_meets (by omega) (by omega) hB1) ?_
      refine pw_pop hX rfl dX4_round_40 (q := 41) rfl ?_
      refine pw_goto hX (tgt := 60) dX4_round_41 (by decide) ?_
      refine pw_aload_n hX rfl dX4_round_60 (q := 61) rfl ?_
      refine pw_iload_n hX rfl dX4_round_61 (q := 62) rfl ?_
      refine pw_cvI1 hX dX4_round_62 (q := 65) rfl mi_X4_awakeBehind ml_X4_141 rcM ⟨rfl, rfl, by decide, by decide⟩ rfl (Nat.le_of_ble_eq_true rfl) (c_X4_awakeBehind (k := v + 1) (nI_add _ _) (by omega) (bS_Meet hB1 (by omega) (by omega))) ?_
      refine pw_istore_n hX (by decide) dX4_round_65 (q := 66) rfl ?_
      refine pw_goto hX (tgt := 8) dX4_round_66 (by decide) ?_
      exact pw_fg hX (lv' := [_, _, _, none]) (by repeat first | exact lle_nil | refine lle_cons ?_ | refine lle_none ?_) (ih (by omega) _ _ (bS_Meet hB1 (by omega) (by omega)) ((mMeet_lo S1 (by omega) (by omega) (by decide) (by decide) (by decide)).trans h0) (by have := mNx_ge (mMeet S1 v (mNx S1 (v + 1))).1 (v + 1); omega) (by have := mNx_ge (mMeet S1 v (mNx S1 (v + 1))).1 (v + 1); omega) (by have h8 := mNx_l2 (mMeet S1 v (mNx S1 (v + 1))).1 (k := v + 1) (by rw [((mMeet_lo S1 (by omega) (by omega) (by decide) (by decide) (by decide)).trans h0)]; omega); rw [((mMeet_lo S1 (by omega) (by omega) (by decide) (by decide) (by decide)).trans h0)] at h8; exact h8) (by rw [← hall, show S 0 + 1 - i = (S 0 + 1 - (i + 1)) + 1 by omega]; refine Eq.trans ?_ (if_pos h_15).symm; rw [mRdS, if_pos h_31]))
abbrev rm_X4_rounds : Room := { frames := 6, cells := 0, slots := 0, locals := 142 }
set_option maxHeartbeats 800000 in
set_option maxRecDepth 20000 in
theorem c_X4_rounds {l : Launch} {g : Geo} {w : WD} {V : Nat → Nat → Nat} {S : Nat → Nat} (hB : bS S) : CtE l g yX4_rounds cX4_rounds 3 (some .int) rm_X4_rounds [.ref (g_ad g 9 0)] (mW w V S) (mRounds S) (fun z => ∃ V1, sV V V1 ∧ z = mW w V1 S) := by
  refine ct_of mi_X4_rounds.2.2.2.2.2 ⟨rfl, rfl⟩ (List.forall_mem_cons.mpr ⟨rfl, fun _ h => absurd h List.not_mem_nil⟩) (Nat.le_of_ble_eq_true rfl) (fun P hX => ?_)
  replace hX : Gd l g RX4 cX4_rounds rm_X4_rounds 3 (some .int) _ _ P := hX
  show P (mW w V S) 0 [some (.ref (g_ad g 9 0)), none, none] []
  have h7 := hB.2.2.1
  refine pw_aload_n hX rfl dX4_rounds_0 (q := 1) rfl ?_
  refine pw_cvV0 hX dX4_rounds_1 (q := 4) rfl mi_X4_puts ml_X4_135 rcM ⟨rfl, rfl, by decide, by decide⟩ rfl (Nat.le_of_ble_eq_true rfl) (c_X4_puts) ?_
  refine pw_iconst hX (k := 0) rfl (by decide) dX4_rounds_4 (q := 5) rfl ?_
  refine pw_istore_n hX (by decide) dX4_rounds_5 (q := 6) rfl ?_
  suffices L : ∀ i, i ≤ 7 → ∀ S1 : Nat → Nat, bS S1 → rdF (7 - i) S1 i = rdF 7 S 0 → P (mW w (vA V 4 S) S1) 6 [some (.ref (g_ad g 9 0)), some (.int (nI i)), none] [] by exact L 0 (Nat.zero_le _) S hB rfl
  refine loopUp (fun i hi ih => ?_)
  intro S1 hB1 hall
  refine pw_iload_n hX rfl dX4_rounds_6 (q := 7) rfl ?_
  refine pw_bipush hX (k := 7) (by decide) dX4_rounds_7 (q := 9) rfl ?_
  refine pw_icmpN_ge hX (by omega) (by omega) (tgt := 29) dX4_rounds_9 (q := 12) rfl (by decide) (fun h_9 => ?_) (fun h_9 => ?_)
  · have hend : rdF 7 S 0 = (i, S1) := by rw [← hall, show i = 7 by omega]; rfl
    refine pw_aload_n hX rfl dX4_rounds_29 (q := 30) rfl ?_
    refine pw_cvI0 hX dX4_rounds_30 (q := 33) rfl mi_X4_areAllSame ml_X4_144 rcM ⟨rfl, rfl, by decide, by decide⟩ rfl (Nat.le_of_ble_eq_true rfl) (c_X4_areAllSame hB1) ?_
    refine pw_istore_n hX (by decide) dX4_rounds_33 (q := 34) rfl ?_
    refine pw_aload_n hX rfl dX4_rounds_34 (q := 35) rfl ?_
    refine pw_cvV0 hX dX4_rounds_35 (q := 38) rfl mi_X4_restores ml_X4_138 rcM ⟨rfl, rfl, by decide, by decide⟩ rfl (Nat.le_of_ble_eq_true rfl) (c_X4_restores) ?_
    rw [vA_s]
    refine pw_iload_n hX rfl dX4_rounds_38 (q := 39) rfl ?_
    refine pw_ifB_eq hX (tgt := 46) dX4_rounds_39 (q := 42) rfl (by decide) (fun h_39 => ?_) (fun h_39 => ?_)
    · refine pw_ldc hX cn_X4_80 dX4_rounds_46 (q := 48) rfl ?_
      refine pw_ireturn hX dX4_rounds_48 ⟨_, rfl, rfl⟩ ⟨congrArg (fun z => some (Value.int z)) ?_, ?_⟩
      · rw [mRounds, hend]; first | rw [if_pos h_39] | rw [if_neg (by simp [h_39])]
      · exact ⟨_, sV_4 (sV_rf V) S, rfl⟩
    · refine pw_iload_n hX rfl dX4_rounds_42 (q := 43) rfl ?_
      refine pw_goto hX (tgt := 48) dX4_rounds_43 (by decide) ?_
      refine pw_ireturn hX dX4_rounds_48 ⟨_, rfl, rfl⟩ ⟨congrArg (fun z => some (Value.int z)) ?_, ?_⟩
      · rw [mRounds, hend]; first | rw [if_pos h_39] | rw [if_neg (by simp [h_39])]
      · exact ⟨_, sV_4 (sV_rf V) S, rfl⟩
  · refine pw_aload_n hX rfl dX4_rounds_12 (q := 13) rfl ?_
    refine pw_cvI0 hX dX4_rounds_13 (q := 16) rfl mi_X4_areAllSame ml_X4_144 rcM ⟨rfl, rfl, by decide, by decide⟩ rfl (Nat.le_of_ble_eq_true rfl) (c_X4_areAllSame hB1) ?_
    refine pw_ifB_ne hX (tgt := 29) dX4_rounds_16 (q := 19) rfl (by decide) (fun h_16 => ?_) (fun h_16 => ?_)
    · have hend : rdF 7 S 0 = (i, S1) := by rw [← hall, show 7 - i = (7 - (i + 1)) + 1 by omega]; exact if_pos h_16
      refine pw_aload_n hX rfl dX4_rounds_29 (q := 30) rfl ?_
      refine pw_cvI0 hX dX4_rounds_30 (q := 33) rfl mi_X4_areAllSame ml_X4_144 rcM ⟨rfl, rfl, by decide, by decide⟩ rfl (Nat.le_of_ble_eq_true rfl) (c_X4_areAllSame hB1) ?_
      refine pw_istore_n hX (by decide) dX4_rounds_33 (q := 34) rfl ?_
      refine pw_aload_n hX rfl dX4_rounds_34 (q := 35) rfl ?_
      refine pw_cvV0 hX dX4_rounds_35 (q := 38) rfl mi_X4_restores ml_X4_138 rcM ⟨rfl, rfl, by decide, by decide⟩ rfl (Nat.le_of_ble_eq_true rfl) (c_X4_restores) ?_
      rw [vA_s]
      refine pw_iload_n hX rfl dX4_rounds_38 (q := 39) rfl ?_
      refine pw_ifB_eq hX (tgt := 46) dX4_rounds_39 (q := 42) rfl (by decide) (fun h_39 => ?_) (fun h_39 => ?_)
      · refine pw_ldc hX cn_X4_80 dX4_rounds_46 (q := 48) rfl ?_
        refine pw_ireturn hX dX4_rounds_48 ⟨_, rfl, rfl⟩ ⟨congrArg (fun z => some (Value.int z)) ?_, ?_⟩
        · rw [mRounds, hend]; first | rw [if_pos h_39] | rw [if_neg (by simp [h_39])]
        · exact ⟨_, sV_4 (sV_rf V) S, rfl⟩
      · refine pw_iload_n hX rfl dX4_rounds_42 (q := 43) rfl ?_
        refine pw_goto hX (tgt := 48) dX4_rounds_43 (by decide) ?_
        refine pw_ireturn hX dX4_rounds_48 ⟨_, rfl, rfl⟩ ⟨congrArg (fun z => some (Value.int z)) ?_, ?_⟩
        · rw [mRounds, hend]; first | rw [if_pos h_39] | rw [if_neg (by simp [h_39])]
        · exact ⟨_, sV_4 (sV_rf V) S, rfl⟩
    · refine pw_aload_n hX rfl dX4_rounds_19 (q := 20) rfl ?_
      refine pw_cvV0 hX dX4_rounds_20 (q := 23) rfl mi_X4_round ml_X4_148 rcM ⟨rfl, rfl, by decide, by decide⟩ rfl (Nat.le_of_ble_eq_true rfl) (c_X4_round hB1) ?_
      refine pw_iinc hX rfl (by decide) (inc1 _) dX4_rounds_23 (q := 26) rfl ?_
      refine pw_goto hX (tgt := 6) dX4_rounds_26 (by decide) ?_
      exact ih (by omega) _ (mRound_b hB1).1 (by rw [← hall, show 7 - i = (7 - (i + 1)) + 1 by omega]; exact (if_neg (by simp [h_16])).symm)
