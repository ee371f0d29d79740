theorem mDoes_98 (S : Nat → Nat) (G : Nat → Nat) : mDoes S 98 G = mBuries S (nI (G 0)) (nI (G 1)) := if_pos rfl
theorem mDoes_109 (S : Nat → Nat) (G : Nat → Nat) : mDoes S 109 G = mMeets1 S (nI (G 0)) (nI (G 1)) := by unfold mDoes; rw [if_neg (by decide), if_pos rfl]
theorem mDoes_115 (S : Nat → Nat) (G : Nat → Nat) : mDoes S 115 G = mSleeps S (nI (G 0)) := by unfold mDoes; rw [if_neg (by decide), if_neg (by decide), if_pos rfl]
theorem mDoes_116 (S : Nat → Nat) (G : Nat → Nat) : mDoes S 116 G = mTells S (nI (G 0)) (nI (G 1)) (nI (G 2)) (nI 0) := by unfold mDoes; rw [if_neg (by decide), if_neg (by decide), if_neg (by decide), if_pos rfl]
theorem mDoes_119 (S : Nat → Nat) (G : Nat → Nat) : mDoes S 119 G = mWakes S (nI (G 0)) := by unfold mDoes; rw [if_neg (by decide), if_neg (by decide), if_neg (by decide), if_neg (by decide), if_pos rfl]
theorem mDoes_d (S : Nat → Nat) {c : Nat} (G : Nat → Nat) (h : c ≠ 98 ∧ c ≠ 109 ∧ c ≠ 115 ∧ c ≠ 116 ∧ c ≠ 119) : mDoes S c G = mTicks S (nI (G 0)) := by unfold mDoes; rw [if_neg h.1, if_neg h.2.1, if_neg h.2.2.1, if_neg h.2.2.2.1, if_neg h.2.2.2.2]
def tRs (T : Nat → Nat) (X : Nat) (S : Nat → Nat) (a : Nat) (G : Nat → Nat) : Nat := if (tForm T X (T a) (a + 1) G).1 = true then (if tThere S (T a) (tForm T X (T a) (a + 1) G).2.2 = true then (if -1000001 < (mDoes S (T a) (tForm T X (T a) (a + 1) G).2.2).2 then 0 else 3) else 2) else 1
def tNS (T : Nat → Nat) (X : Nat) (S : Nat → Nat) (a : Nat) (G : Nat → Nat) : Nat → Nat := if (tForm T X (T a) (a + 1) G).1 = true ∧ tThere S (T a) (tForm T X (T a) (a + 1) G).2.2 = true then (mDoes S (T a) (tForm T X (T a) (a + 1) G).2.2).1 else S
def fF (T : Nat → Nat) (X : Nat) : Nat → (Nat → Nat) → Nat → (Nat → Nat) → Nat × Nat
  | 0, _, _, _ => (0, 0)
  | f + 1, S, a, G => if a < X then (if 0 < tRs T X S a G then (a + 1, tRs T X S a G) else fF T X f (tNS T X S a G) (tForm T X (T a) (a + 1) G).2.1 (tForm T X (T a) (a + 1) G).2.2) else (0, 0)
def pF (T : Nat → Nat) (X : Nat) : Nat → (Nat → Nat) → Nat → (Nat → Nat) → Nat → Nat × (Nat → Nat)
  | 0, S, _, _, n => (n, S)
  | f + 1, S, a, G, n => if a < X then pF T X f (tNS T X S a G) (tForm T X (T a) (a + 1) G).2.1 (tForm T X (T a) (a + 1) G).2.2 (n + 1) else (n, S)
theorem fF_d {T : Nat → Nat} {X f : Nat} {S G : Nat → Nat} {a : Nat} (h : X ≤ a) : fF T X f S a G = (0, 0) := by
  cases f with
  | zero => rfl
  | succ f => exact if_neg (by omega)
theorem pF_d {T : Nat → Nat} {X f : Nat} {S G : Nat → Nat} {a n : Nat} (h : X ≤ a) : pF T X f S a G n = (n, S) := by
  cases f with
  | zero => rfl
  | succ f => exact if_neg (by omega)
theorem fF_s {T : Nat → Nat} {X f : Nat} {S G : Nat → Nat} {a : Nat} (h : a < X) (hf : 0 < f) : fF T X f S a G = if 0 < tRs T X S a G then (a + 1, tRs T X S a G) else fF T X (f - 1) (tNS T X S a G) (tForm T X (T a) (a + 1) G).2.1 (tForm T X (T a) (a + 1) G).2.2 := by
  cases f with
  | zero => omega
  | succ f => exact if_pos h
theorem pF_s {T : Nat → Nat} {X f : Nat} {S G : Nat → Nat} {a n : Nat} (h : a < X) (hf : 0 < f) : pF T X f S a G n = pF T X (f - 1) (tNS T X S a G) (tForm T X (T a) (a + 1) G).2.1 (tForm T X (T a) (a + 1) G).2.2 (n + 1) := by
  cases f with
  | zero => omega
  | succ f => exact if_pos h
theorem tRs_le (T : Nat → Nat) (X : Nat) (S : Nat → Nat) (a : Nat) (G : Nat → Nat) : tRs T X S a G ≤ 3 := by
  unfold tRs
  (repeat' split) <;> omega
/-- what stood in the places of the numbers before does not matter -/
theorem tR_G (T : Nat → Nat) (X n a : Nat) (G G' : Nat → Nat) : ∀ k, (tR T X n a G k).1 = (tR T X n a G' k).1 ∧ (tR T X n a G k).2.1 = (tR T X n a G' k).2.1 ∧ ((tR T X n a G k).1 = true → ∀ j, j ≤ k → (tR T X n a G k).2.2 j = (tR T X n a G' k).2.2 j)
  | 0 => by
    unfold tR
    split
    · exact ⟨rfl, rfl, fun h => by cases h⟩
    · refine ⟨rfl, rfl, fun _ j hj => ?_⟩
      obtain rfl : j = 0 := by omega
      exact (upN_s G 0 _).trans (upN_s G' 0 _).symm
  | k + 1 => by
    obtain ⟨h1, h2, h3⟩ := tR_G T X n a G G' k
    rw [tR_s, tR_s, ← h1, ← h2]
    by_cases hb : (tR T X n a G k).1 = true
    · rw [if_pos hb, if_pos hb]
      by_cases hc : tHas T X (tR T X n a G k).2.1 44 = true
      · rw [if_pos hc, if_pos hc]
        refine ⟨rfl, rfl, fun _ j hj => ?_⟩
        show upN (tR T X n a G k).2.2 (k + 1) _ j = upN (tR T X n a G' k).2.2 (k + 1) _ j
        by_cases hk : j = k + 1
        · rw [hk, upN_s, upN_s]
        · rw [upN_n _ _ hk, upN_n _ _ hk]
          exact h3 hb j (by omega)
      · rw [if_neg hc, if_neg hc]
        exact ⟨rfl, h2, fun h => by cases h⟩
    · rw [if_neg hb, if_neg hb]
      exact ⟨h1, h2, fun h => absurd h hb⟩
theorem tForm_G (T : Nat → Nat) (X c a : Nat) (G G' : Nat → Nat) : (tForm T X c a G).1 = (tForm T X c a G').1 ∧ (tForm T X c a G).2.1 = (tForm T X c a G').2.1 ∧ ((tForm T X c a G).1 = true → ∀ j, j ≤ tNums c - 1 → (tForm T X c a G).2.2 j = (tForm T X c a G').2.2 j) := by
  obtain ⟨h1, h2, h3⟩ := tR_G T X (tNums c) a G G' (tNums c - 1)
  unfold tForm
  rw [← h1, ← h2]
  split
  · rename_i hb
    exact ⟨rfl, rfl, fun _ => h3 hb.1⟩
  · exact ⟨rfl, h2, fun h => by cases h⟩
theorem tThere_G (S : Nat → Nat) {c : Nat} {G G' : Nat → Nat} (h : ∀ j, j ≤ tNums c - 1 → G j = G' j) : tThere S c G = tThere S c G' := by
  unfold tThere
  rw [h 0 (Nat.zero_le _)]
  by_cases h1 : c = 109
  · subst h1; rw [h 1 (by decide)]
  · rw [if_neg h1, if_neg h1]
    by_cases h2 : c = 116 ∨ c = 98
    · rw [if_pos h2, if_pos h2]
      rw [h 1 (by rcases h2 with rfl | rfl <;> decide)]
    · rw [if_neg h2, if_neg h2]
theorem mDoes_G (S : Nat → Nat) {c : Nat} {G G' : Nat → Nat} (h : ∀ j, j ≤ tNums c - 1 → G j = G' j) : mDoes S c G = mDoes S c G' := by
  have h0 := h 0 (Nat.zero_le _)
  rcases (show c = 98 ∨ c = 109 ∨ c = 115 ∨ c = 116 ∨ c = 119 ∨ (c ≠ 98 ∧ c ≠ 109 ∧ c ≠ 115 ∧ c ≠ 116 ∧ c ≠ 119) by omega) with rfl | rfl | rfl | rfl | rfl | hd
  · rw [mDoes_98, mDoes_98, h0, h 1 (by decide)]
  · rw [mDoes_109, mDoes_109, h0, h 1 (by decide)]
  · rw [mDoes_115, mDoes_115, h0]
  · rw [mDoes_116, mDoes_116, h0, h 1 (by decide), h 2 (by decide)]
  · rw [mDoes_119, mDoes_119, h0]
  · rw [mDoes_d _ _ hd, mDoes_d _ _ hd, h0]
theorem tRs_G (T : Nat → Nat) (X : Nat) (S : Nat → Nat) (a : Nat) (G G' : Nat → Nat) : tRs T X S a G = tRs T X S a G' ∧ tNS T X S a G = tNS T X S a G' := by
  obtain ⟨h1, h2, h3⟩ := tForm_G T X (T a) (a + 1) G G'
  unfold tRs tNS
  rw [← h1]
  by_cases hb : (tForm T X (T a) (a + 1) G).1 = true
  · simp only [if_pos hb, hb, true_and]
    rw [tThere_G S (h3 hb), mDoes_G S (h3 hb)]
    exact ⟨rfl, rfl⟩
  · rw [if_neg hb, if_neg hb, if_neg (fun z => hb z.1), if_neg (fun z => hb z.1)]
    exact ⟨rfl, rfl⟩
theorem fF_G (T : Nat → Nat) (X : Nat) : ∀ f S a (G G' : Nat → Nat), fF T X f S a G = fF T X f S a G'
  | 0, _, _, _, _ => rfl
  | f + 1, S, a, G, G' => by
    unfold fF
    rw [(tRs_G T X S a G G').1, (tRs_G T X S a G G').2, (tForm_G T X (T a) (a + 1) G G').2.1, fF_G T X f _ _ (tForm T X (T a) (a + 1) G).2.2 (tForm T X (T a) (a + 1) G').2.2]
theorem pF_G (T : Nat → Nat) (X : Nat) : ∀ f S a (G G' : Nat → Nat) n, pF T X f S a G n = pF T X f S a G' n
  | 0, _, _, _, _, _ => rfl
  | f + 1, S, a, G, G', n => by
    unfold pF
    rw [(tRs_G T X S a G G').2, (tForm_G T X (T a) (a + 1) G G').2.1, pF_G T X f _ _ (tForm T X (T a) (a + 1) G).2.2 (tForm T X (T a) (a + 1) G').2.2]
theorem loopDn {Z : Nat → Prop} (h : ∀ f, (0 < f → Z (f - 1)) → Z f) : ∀ f, Z f
  | 0 => h 0 (fun z => absurd z (Nat.lt_irrefl 0))
  | f + 1 => h (f + 1) (fun _ => loopDn h f)
/-- all that is asked of the numbers of a state -/
def mI (S : Nat → Nat) (N : Nat) : Prop := bS S ∧ bW S ∧ (∀ v, v < 7 → S (5 + 4 * v + 1) ≤ N) ∧ S 1 ≤ 100000
theorem mI_le {S : Nat → Nat} {N N' : Nat} (h : mI S N) (hN : N ≤ N') : mI S N' := ⟨h.1, h.2.1, fun v hv => Nat.le_trans (h.2.2.1 v hv) hN, h.2.2.2⟩
theorem bS_fr {S : Nat → Nat} (hB : bS S) {j : Nat} (x : Nat) (hj : j = 3 ∨ j = 4 ∨ (5 ≤ j ∧ j < 33 ∧ (j - 5) % 4 = 2)) : bS (upN S j x) := by
  obtain ⟨h1, h2, h3, h4, h5⟩ := hB
  refine ⟨fun i a b => ?_, fun v k a b c => ?_, ?_, ?_, ?_⟩
  · rw [upN_n _ _ (by omega)]; exact h1 i a b
  · rw [upN_n _ _ (by omega)]; exact h2 v k a b c
  · rw [upN_n _ _ (by omega)]; exact h3
  · rw [upN_n _ _ (by omega)]; exact h4
  · rw [upN_n _ _ (by omega)]; exact h5
theorem mI_upN {S : Nat → Nat} {N j x : Nat} (h : mI S N) (hx : x < 2 ^ 30 ∨ j = 3 ∨ j = 4 ∨ (5 ≤ j ∧ j < 33 ∧ (j - 5) % 4 = 2)) (h1 : 2 ≤ j) (h2 : 5 ≤ j → j < 33 → (j - 5) % 4 ≠ 1) (h3 : 225 ≤ j → (j - 225) % 7 ≠ 5) : mI (upN S j x) N := by
  obtain ⟨hB, hW, hc, h0⟩ := h
  refine ⟨by rcases hx with hx | hx; · exact bS_upN hB (by omega) hx
             · exact bS_fr hB x hx, fun v t hv ht => ?_, fun v hv => ?_, ?_⟩
  · rw [upN_n _ _ (by omega), upN_n _ _ (by omega)]; exact hW v t hv ht
  · rw [upN_n _ _ (by omega)]; exact hc v hv
  · rw [upN_n _ _ (by omega)]; exact h0
theorem mI_Make {S : Nat → Nat} {N v t a b c : Nat} (h : mI S N) (hN : N + 1 < 2 ^ 30) (hv : v < 7) (ht : t < 12) (h1 : a < 2 ^ 30) (h2 : b < 2 ^ 30) (h3 : c < 2 ^ 30) : mI (mMake S v t a b c) (N + 1) := by
  obtain ⟨hB, hW, hc, h0⟩ := h
  have hcv := hc v hv
  have e1 : mMake S v t a b c 1 = S 1 := mMake_n S (by omega) (Or.inl (by omega))
  refine ⟨bS_Make hB hv (by omega) h1 h2 h3, fun v' t' hv' ht' => ?_, fun v' hv' => ?_, by rw [e1]; exact h0⟩
  · rw [e1]
    by_cases hr : 225 + 84 * v + 7 * t ≤ 225 + 84 * v' + 7 * t' + 5 ∧ 225 + 84 * v' + 7 * t' + 5 < 225 + 84 * v + 7 * t + 7
    · rw [show 225 + 84 * v' + 7 * t' + 5 = 225 + 84 * v + 7 * t + 5 by omega, (mMake_e S hv).2.2.2.2.2.1]
      exact Nat.le_refl _
    · rw [mMake_n S (by omega) (by omega)]
      exact hW v' t' hv' ht'
  · by_cases hvv : v' = v
    · subst hvv
      rw [mMake_c S hv]; omega
    · rw [mMake_n S (by omega) (Or.inl (by omega))]
      have := hc v' hv'
      omega
theorem mI_Bury {S : Nat → Nat} {N v t : Nat} (h : mI S N) (hN : N + 1 < 2 ^ 30) (hv : v < 7) (ht : t < 12) : mI (mBury S v t) (N + 1) := by
  have h1 := mI_Make (a := 2) (b := 0) (c := 0) h hN hv ht (by decide) (by decide) (by decide)
  have hc := h1.2.2.1 v hv
  have h2 : mI (upN (mMake S v t 2 0 0) 4 (mMake S v t 2 0 0 4 + 1)) (N + 1) := mI_upN h1 (Or.inr (Or.inr (Or.inl rfl))) (by omega) (by omega) (by omega)
  unfold mBury
  show mI (if _ then _ else _) _
  split
  · exact mI_upN (mI_upN h2 (Or.inl (by omega)) (by omega) (by omega) (by omega)) (Or.inl (by omega)) (by omega) (by omega) (by omega)
  · exact h2
theorem bW_of {S S' : Nat → Nat} (hW : bW S) (h1 : S' 1 = S 1) (h : ∀ v t, v < 7 → t < 12 → ∃ v' t', v' < 7 ∧ t' < 12 ∧ S' (225 + 84 * v + 7 * t + 5) = S (225 + 84 * v' + 7 * t' + 5)) : bW S' := by
  intro v t hv ht
  obtain ⟨v', t', hv', ht', e⟩ := h v t hv ht
  rw [e, h1]; exact hW v' t' hv' ht'
theorem bW_Ps {S : Nat → Nat} (hW : bW S) {f p t : Nat} (hf : f < 7) (hp : p < 7) (ht : t < 12) : bW (mPs S f p t) := by
  refine bW_of hW (mPs_lo S hp (by decide) (by decide) (by omega)) (fun v t' hv ht' => ?_)
  unfold mPs
  split
  · have hg : ∀ j, 225 ≤ j → (if mGho S f p t = true then mGh S p else S) j = S j := by
      intro j hj
      split
      · unfold mGh
        rw [upN_n _ _ (by omega), upN_n _ _ (by omega)]
      · rfl
    unfold cpE
    split
    · rename_i hr
      refine ⟨f, t, hf, ht, ?_⟩
      rw [hg _ (by omega)]
      exact congrArg S (by omega)
    · exact ⟨v, t', hv, ht', hg _ (by omega)⟩
  · exact ⟨v, t', hv, ht', rfl⟩
theorem bW_See {S : Nat → Nat} (hW : bW S) {o p t : Nat} : bW (mSee S o p t) := by
  refine bW_of hW (mSee_lo S (by decide)) (fun v t' hv ht' => ⟨v, t', hv, ht', ?_⟩)
  unfold mSee
  split
  · rw [upN_n _ _ (by omega), upN_n _ _ (by omega)]
  · rfl
theorem bW_Mt {S : Nat → Nat} (hW : bW S) {o p : Nat} (ho : o < 7) (hp : p < 7) : ∀ t, t ≤ 12 → bW (mMt S o p t).1
  | 0, _ => hW
  | t + 1, h => by
    have h1 := bW_Mt hW ho hp t (by omega)
    show bW (mSee (mP2s (mMt S o p t).1 o p t) o p t)
    refine bW_See ?_
    unfold mP2s
    split
    · exact bW_Ps h1 ho hp (by omega)
    · exact bW_Ps h1 hp ho (by omega)
theorem mMeet0_c {S : Nat → Nat} {N o p : Nat} (hc : ∀ v, v < 7 → S (5 + 4 * v + 1) ≤ N) (ho : o < 7) (hp : p < 7) : ∀ v, v < 7 → mMeet0 S o p (5 + 4 * v + 1) ≤ N := by
  intro v hv
  have h1 := hc o ho
  have h2 := hc p hp
  have hk : mClk S o p ≤ N := by unfold mClk; split <;> omega
  unfold mMeet0
  by_cases h : v = p
  · subst h; rw [upN_s]; exact hk
  · rw [upN_n _ _ (by omega)]
    by_cases h9 : v = o
    · subst h9; rw [upN_s]; exact hk
    · rw [upN_n _ _ (by omega)]; exact hc v hv
theorem mI_Meet {S : Nat → Nat} {N o p : Nat} (h : mI S N) (ho : o < 7) (hp : p < 7) : mI (mMeet S o p).1 N := by
  obtain ⟨hB, hW, hc, h0⟩ := h
  refine ⟨bS_Meet hB ho hp, ?_, fun v hv => ?_, by rw [mMeet_lo S ho hp (by decide) (by decide) (by omega)]; exact h0⟩
  · unfold mMeet
    refine bW_Mt (bW_of hW ?_ (fun v t hv ht => ⟨v, t, hv, ht, ?_⟩)) ho hp 12 (Nat.le_refl _)
    · unfold mMeet0
      rw [upN_n _ _ (by omega), upN_n _ _ (by omega)]
    · unfold mMeet0
      rw [upN_n _ _ (by omega), upN_n _ _ (by omega)]
  · unfold mMeet
    rw [mMt_lo _ ho hp (by omega) (by omega) (by omega)]
    exact mMeet0_c hc ho hp v hv
theorem mTickI_lo {S : Nat → Nat} (h : S 0 ≤ 7) {j : Nat} (hj : j < 57) (h1 : j ≠ 1) : ∀ k, (mTickI S k).1 j = S j
  | 0 => rfl
  | k + 1 => by
    have h2 := mTickI_t h k
    show (mTick1 (mTickI S k).1).1 j = _
    unfold mTick1
    rw [mDv_n _ (Or.inl hj) _ (by rw [h2.2]; exact h), upN_n _ _ h1]
    exact mTickI_lo h hj h1 k
theorem mI_Ticks {S : Nat → Nat} {N : Nat} (h : mI S N) (v : Int32) : mI (mTicks S v).1 N := by
  unfold mTicks
  split
  · split
    · exact h
    · obtain ⟨hB, hW, hc, h0⟩ := h
      have h7 := hB.2.2.1
      have hb := mTickI_b hB hW (ix v) (by omega)
      refine ⟨hb.1, hb.2, fun u hu => ?_, ?_⟩
      · show (mTickI S (ix v)).1 _ ≤ N
        rw [mTickI_lo h7 (by omega) (by omega)]; exact hc u hu
      · show (mTickI S (ix v)).1 1 ≤ _
        rw [(mTickI_t h7 _).1]; omega
  · exact h
theorem mI_Sleeps {S : Nat → Nat} {N : Nat} (h : mI S N) (v : Int32) : mI (mSleeps S v).1 N := by
  have h1 := h.2.2.2
  have h7 := h.1.2.2.1
  unfold mSleeps
  split
  · rename_i hv
    obtain ⟨i, hi, rfl⟩ := hasN_of (by omega) hv
    rw [ix_nI (by omega)]
    split
    · exact mI_upN (mI_upN h (Or.inl (by decide)) (by omega) (by omega) (by omega)) (Or.inl (by omega)) (by omega) (by omega) (by omega)
    · exact h
  · exact h
theorem mI_Wakes {S : Nat → Nat} {N : Nat} (h : mI S N) (v : Int32) : mI (mWakes S v).1 N := by
  have h7 := h.1.2.2.1
  unfold mWakes
  split
  · rename_i hv
    obtain ⟨i, hi, rfl⟩ := hasN_of (by omega) hv
    rw [ix_nI (by omega)]
    split
    · exact mI_upN h (Or.inl (by decide)) (by omega) (by omega) (by omega)
    · exact h
  · exact h
theorem mI_Tells {S : Nat → Nat} {N : Nat} (h : mI S N) (hN : N + 1 < 2 ^ 30) (v t a k : Int32) : mI (mTells S v t a k).1 (N + 1) := by
  have h7 := h.1.2.2.1
  unfold mTells
  split
  · rename_i hv
    obtain ⟨hv, ht, ha, hk⟩ := hv
    obtain ⟨i, hi, rfl⟩ := hasN_of (by omega) hv
    obtain ⟨j, hj, rfl⟩ := hasN_of (by decide) ht
    obtain ⟨x, -, hx, rfl⟩ := inN_of (by decide) ha
    obtain ⟨y, -, hy, rfl⟩ := inN_of (by decide) hk
    rw [ix_nI (by omega), ix_nI (by omega), ix_nI (by omega), ix_nI (by omega)]
    split
    · exact mI_Make h hN (by omega) hj (by decide) (by omega) (by omega)
    · exact mI_le h (by omega)
  · exact mI_le h (by omega)
theorem mI_Buries {S : Nat → Nat} {N : Nat} (h : mI S N) (hN : N + 1 < 2 ^ 30) (v t : Int32) : mI (mBuries S v t).1 (N + 1) := by
  have h7 := h.1.2.2.1
  unfold mBuries
  split
  · rename_i hv
    obtain ⟨hv, ht⟩ := hv
    obtain ⟨i, hi, rfl⟩ := hasN_of (by omega) hv
    obtain ⟨j, hj, rfl⟩ := hasN_of (by decide) ht
    rw [ix_nI (by omega), ix_nI (by omega)]
    split
    · exact mI_Bury h hN (by omega) hj
    · exact mI_le h (by omega)
  · exact mI_le h (by omega)
theorem mI_Meets1 {S : Nat → Nat} {N : Nat} (h : mI S N) (v u : Int32) : mI (mMeets1 S v u).1 N := by
  have h7 := h.1.2.2.1
  unfold mMeets1
  split
  · rename_i hv
    obtain ⟨hv, ht, -⟩ := hv
    obtain ⟨i, hi, rfl⟩ := hasN_of (by omega) hv
    obtain ⟨j, hj, rfl⟩ := hasN_of (by omega) ht
    rw [ix_nI (by omega), ix_nI (by omega)]
    split
    · dsimp only
      exact mI_Meet (o := i) (p := j) h (by omega) (by omega)
    · exact h
  · exact h
theorem mI_Does {S : Nat → Nat} {N : Nat} (h : mI S N) (hN : N + 1 < 2 ^ 30) (c : Nat) (G : Nat → Nat) : mI (mDoes S c G).1 (N + 1) := by
  unfold mDoes
  (repeat' split) <;> first | exact mI_Buries h hN _ _ | exact mI_le (mI_Meets1 h _ _) (by omega) | exact mI_le (mI_Sleeps h _) (by omega) | exact mI_Tells h hN _ _ _ _ | exact mI_le (mI_Wakes h _) (by omega) | exact mI_le (mI_Ticks h _) (by omega)
theorem mI_NS {T : Nat → Nat} {X : Nat} {S : Nat → Nat} {a : Nat} {G : Nat → Nat} {N : Nat} (h : mI S N) (hN : N + 1 < 2 ^ 30) : mI (tNS T X S a G) (N + 1) := by
  unfold tNS
  split
  · exact mI_Does h hN _ _
  · exact mI_le h (by omega)
def ff (x : Nat) : Int32 := if x = 0 then -1000004 else nI (x - 1)
theorem ff_0 : ff 0 = -1000004 := rfl
theorem ff_s (x : Nat) : ff (x + 1) = nI x := rfl
theorem nI_nn {a : Nat} (h : a < 2 ^ 31) {k : Int32} (hk : k.toInt < 0) : nI a ≠ k := fun z => by
  have h1 := nI_toInt h
  rw [z] at h1
  omega
abbrev rm_X4_does : Room := { frames := 6, cells := 0, slots := 0, locals := 141 }
set_option maxHeartbeats 800000 in
set_option maxRecDepth 20000 in
theorem c_X4_does {l : Launch} {g : Geo} {w : WD} {V : Nat → Nat → Nat} {S : Nat → Nat} {a r : Nat} {G : Nat → Nat} {c : Nat} (hc : c < 2 ^ 31) (hB : bS S) (hW : bW S) : CtI l g yX4_does cX4_does 2 (some .int) rm_X4_does [.ref (g_ad g 9 0), .int (nI c)] (mW w (tV V a r G) S) ((mDoes S c G).2) (mW w (tV V a r G) (mDoes S c G).1) := by
  refine ct_of mi_X4_does.2.2.2.2.2 ⟨rfl, rfl⟩ (List.forall_mem_cons.mpr ⟨rfl, List.forall_mem_cons.mpr ⟨rfl, fun _ h => absurd h List.not_mem_nil⟩⟩) (Nat.le_of_ble_eq_true rfl) (fun P hX => ?_)
  replace hX : Gd l g RX4 cX4_does rm_X4_does 2 (some .int) _ _ P := hX
  show P (mW w (tV V a r G) S) 0 [some (.ref (g_ad g 9 0)), some (.int (nI c))] []
  have h7 := hB.2.2.1
  refine pw_iload_n hX rfl dX4_does_0 (q := 1) rfl ?_
  rcases (show c = 98 ∨ c = 109 ∨ c = 115 ∨ c = 116 ∨ c = 119 ∨ (c ≠ 98 ∧ c ≠ 109 ∧ c ≠ 115 ∧ c ≠ 116 ∧ c ≠ 119) by omega) with rfl | rfl | rfl | rfl | rfl | hd
  · skip
    · refine pw_lookup hX (off := 75) (tgt := 76) dX4_does_1 (by decide) (by rw [nI_toInt hc]; exact (swX4 _).trans (by decide)) (by decide) ?_
      refine pw_aload_n hX rfl dX4_does_76 (q := 77) rfl ?_
      refine pw_aload_n hX rfl dX4_does_77 (q := 78) rfl ?_
      refine pw_getMS hX 9 (by decide) fl_X4_26 rfl dX4_does_78 (q := 81) rfl ?_
      refine pw_iconst hX (k := 0) rfl (by decide) dX4_does_81 (q := 82) rfl ?_
      refine pw_ialdMS hX 6 (by decide) (show _ < 3 by omega) dX4_does_82 (q := 83) rfl ?_
      repeat first | rw [tV_7] | rw [tV_8] | rw [tV_x] | rw [tV_t] | rw [tV_g] | rw [tV_p7] | rw [tV_p8] | rw [tV_pg] | rw [upN_s]
      refine pw_aload_n hX rfl dX4_does_83 (q := 84) rfl ?_
      refine pw_getMS hX 9 (by decide) fl_X4_26 rfl dX4_does_84 (q := 87) rfl ?_
      refine pw_iconst hX (k := 1) rfl (by decide) dX4_does_87 (q := 88) rfl ?_
      refine pw_ialdMS hX 6 (by decide) (show _ < 3 by omega) dX4_does_88 (q := 89) rfl ?_
      repeat first | rw [tV_7] | rw [tV_8] | rw [tV_x] | rw [tV_t] | rw [tV_g] | rw [tV_p7] | rw [tV_p8] | rw [tV_pg] | rw [upN_s]
      refine pw_cvI2 hX dX4_does_89 (q := 92) rfl mi_X4_buries ml_X4_99 rcM ⟨rfl, rfl, by decide, by decide⟩ rfl (Nat.le_of_ble_eq_true rfl) (c_X4_buries hB) ?_
      refine pw_ireturn hX dX4_does_92 ⟨_, rfl, rfl⟩ ⟨congrArg (fun z => some (Value.int z)) ?_, ?_⟩
      · first | rw [mDoes_98] | rw [mDoes_109] | rw [mDoes_115] | rw [mDoes_116] | rw [mDoes_119] | rw [mDoes_d _ _ hd]
      · first | rw [mDoes_98] | rw [mDoes_109] | rw [mDoes_115] | rw [mDoes_116] | rw [mDoes_119] | rw [mDoes_d _ _ hd]
  · skip
    · refine pw_lookup hX (off := 92) (tgt := 93) dX4_does_1 (by decide) (by rw [nI_toInt hc]; exact (swX4 _).trans (by decide)) (by decide) ?_
      refine pw_aload_n hX rfl dX4_does_93 (q := 94) rfl ?_
      refine pw_aload_n hX rfl dX4_does_94 (q := 95) rfl ?_
      refine pw_getMS hX 9 (by decide) fl_X4_26 rfl dX4_does_95 (q := 98) rfl ?_
      refine pw_iconst hX (k := 0) rfl (by decide) dX4_does_98 (q := 99) rfl ?_
      refine pw_ialdMS hX 6 (by decide) (show _ < 3 by omega) dX4_does_99 (q := 100) rfl ?_
      repeat first | rw [tV_7] | rw [tV_8] | rw [tV_x] | rw [tV_t] | rw [tV_g] | rw [tV_p7] | rw [tV_p8] | rw [tV_pg] | rw [upN_s]
      refine pw_aload_n hX rfl dX4_does_100 (q := 101) rfl ?_
      refine pw_getMS hX 9 (by decide) fl_X4_26 rfl dX4_does_101 (q := 104) rfl ?_
      refine pw_iconst hX (k := 1) rfl (by decide) dX4_does_104 (q := 105) rfl ?_
      refine pw_ialdMS hX 6 (by decide) (show _ < 3 by omega) dX4_does_105 (q := 106) rfl ?_
      repeat first | rw [tV_7] | rw [tV_8] | rw [tV_x] | rw [tV_t] | rw [tV_g] | rw [tV_p7] | rw [tV_p8] | rw [tV_pg] | rw [upN_s]
      refine pw_cvI2 hX dX4_does_106 (q := 109) rfl mi_X4_meetsOne ml_X4_117 rcM ⟨rfl, rfl, by decide, by decide⟩ rfl (Nat.le_of_ble_eq_true rfl) (c_X4_meetsOne hB) ?_
      refine pw_ireturn hX dX4_does_109 ⟨_, rfl, rfl⟩ ⟨congrArg (fun z => some (Value.int z)) ?_, ?_⟩
      · first | rw [mDoes_98] | rw [mDoes_109] | rw [mDoes_115] | rw [mDoes_116] | rw [mDoes_119] | rw [mDoes_d _ _ hd]
      · first | rw [mDoes_98] | rw [mDoes_109] | rw [mDoes_115] | rw [mDoes_116] | rw [mDoes_119] | rw [mDoes_d _ _ hd]
  · skip
    · refine pw_lookup hX (off := 109) (tgt := 110) dX4_does_1 (by decide) (by rw [nI_toInt hc]; exact (swX4 _).trans (by decide)) (by decide) ?_
      refine pw_aload_n hX rfl dX4_does_110 (q := 111) rfl ?_
      refine pw_aload_n hX rfl dX4_does_111 (q := 112) rfl ?_
      refine pw_getMS hX 9 (by decide) fl_X4_26 rfl dX4_does_112 (q := 115) rfl ?_
      refine pw_iconst hX (k := 0) rfl (by decide) dX4_does_115 (q := 116) rfl ?_
      refine pw_ialdMS hX 6 (by decide) (show _ < 3 by omega) dX4_does_116 (q := 117) rfl ?_
      repeat first | rw [tV_7] | rw [tV_8] | rw [tV_x] | rw [tV_t] | rw [tV_g] | rw [tV_p7] | rw [tV_p8] | rw [tV_pg] | rw [upN_s]
      refine pw_cvI1 hX dX4_does_117 (q := 120) rfl mi_X4_sleeps ml_X4_64 rcM ⟨rfl, rfl, by decide, by decide⟩ rfl (Nat.le_of_ble_eq_true rfl) (c_X4_sleeps hB) ?_
      refine pw_ireturn hX dX4_does_120 ⟨_, rfl, rfl⟩ ⟨congrArg (fun z => some (Value.int z)) ?_, ?_⟩
      · first | rw [mDoes_98] | rw [mDoes_109] | rw [mDoes_115] | rw [mDoes_116] | rw [mDoes_119] | rw [mDoes_d _ _ hd]
      · first | rw [mDoes_98] | rw [mDoes_109] | rw [mDoes_115] | rw [mDoes_116] | rw [mDoes_119] | rw [mDoes_d _ _ hd]
  · skip
    · refine pw_lookup hX (off := 51) (tgt := 52) dX4_does_1 (by decide) (by rw [nI_toInt hc]; exact (swX4 _).trans (by decide)) (by decide) ?_
      refine pw_aload_n hX rfl dX4_does_52 (q := 53) rfl ?_
      refine pw_aload_n hX rfl dX4_does_53 (q := 54) rfl ?_
      refine pw_getMS hX 9 (by decide) fl_X4_26 rfl dX4_does_54 (q := 57) rfl ?_
      refine pw_iconst hX (k := 0) rfl (by decide) dX4_does_57 (q := 58) rfl ?_
      refine pw_ialdMS hX 6 (by decide) (show _ < 3 by omega) dX4_does_58 (q := 59) rfl ?_
      repeat first | rw [tV_7] | rw [tV_8] | rw [tV_x] | rw [tV_t] | rw [tV_g] | rw [tV_p7] | rw [tV_p8] | rw [tV_pg] | rw [upN_s]
      refine pw_aload_n hX rfl dX4_does_59 (q := 60) rfl ?_
      refine pw_getMS hX 9 (by decide) fl_X4_26 rfl dX4_does_60 (q := 63) rfl ?_
      refine pw_iconst hX (k := 1) rfl (by decide) dX4_does_63 (q := 64) rfl ?_
      refine pw_ialdMS hX 6 (by decide) (show _ < 3 by omega) dX4_does_64 (q := 65) rfl ?_
      repeat first | rw [tV_7] | rw [tV_8] | rw [tV_x] | rw [tV_t] | rw [tV_g] | rw [tV_p7] | rw [tV_p8] | rw [tV_pg] | rw [upN_s]
      refine pw_aload_n hX rfl dX4_does_65 (q := 66) rfl ?_
      refine pw_getMS hX 9 (by decide) fl_X4_26 rfl dX4_does_66 (q := 69) rfl ?_
      refine pw_iconst hX (k := 2) rfl (by decide) dX4_does_69 (q := 70) rfl ?_
      refine pw_ialdMS hX 6 (by decide) (show _ < 3 by omega) dX4_does_70 (q := 71) rfl ?_
      repeat first | rw [tV_7] | rw [tV_8] | rw [tV_x] | rw [tV_t] | rw [tV_g] | rw [tV_p7] | rw [tV_p8] | rw [tV_pg] | rw [upN_s]
      refine pw_iconst hX (k := 0) rfl (by decide) dX4_does_71 (q := 72) rfl ?_
      refine pw_cvI4 hX dX4_does_72 (q := 75) rfl mi_X4_tells ml_X4_95 rcM ⟨rfl, rfl, by decide, by decide⟩ rfl (Nat.le_of_ble_eq_true rfl) (c_X4_tells hB) ?_
      refine pw_ireturn hX dX4_does_75 ⟨_, rfl, rfl⟩ ⟨congrArg (fun z => some (Value.int z)) ?_, ?_⟩
      · first | rw [mDoes_98] | rw [mDoes_109] | rw [mDoes_115] | rw [mDoes_116] | rw [mDoes_119] | rw [mDoes_d _ _ hd]
      · first | rw [mDoes_98] | rw [mDoes_109] | rw [mDoes_115] | rw [mDoes_116] | rw [mDoes_119] | rw [mDoes_d _ _ hd]
  · skip
    · refine pw_lookup hX (off := 120) (tgt := 121) dX4_does_1 (by decide) (by rw [nI_toInt hc]; exact (swX4 _).trans (by decide)) (by decide) ?_
      refine pw_aload_n hX rfl dX4_does_121 (q := 122) rfl ?_
      refine pw_aload_n hX rfl dX4_does_122 (q := 123) rfl ?_
      refine pw_getMS hX 9 (by decide) fl_X4_26 rfl dX4_does_123 (q := 126) rfl ?_
      refine pw_iconst hX (k := 0) rfl (by decide) dX4_does_126 (q := 127) rfl ?_
      refine pw_ialdMS hX 6 (by decide) (show _ < 3 by omega) dX4_does_127 (q := 128) rfl ?_
      repeat first | rw [tV_7] | rw [tV_8] | rw [tV_x] | rw [tV_t] | rw [tV_g] | rw [tV_p7] | rw [tV_p8] | rw [tV_pg] | rw [upN_s]
      refine pw_cvI1 hX dX4_does_128 (q := 131) rfl mi_X4_wakes ml_X4_67 rcM ⟨rfl, rfl, by decide, by decide⟩ rfl (Nat.le_of_ble_eq_true rfl) (c_X4_wakes hB) ?_
      refine pw_ireturn hX dX4_does_131 ⟨_, rfl, rfl⟩ ⟨congrArg (fun z => some (Value.int z)) ?_, ?_⟩
      · first | rw [mDoes_98] | rw [mDoes_109] | rw [mDoes_115] | rw [mDoes_116] | rw [mDoes_119] | rw [mDoes_d _ _ hd]
      · first | rw [mDoes_98] | rw [mDoes_109] | rw [mDoes_115] | rw [mDoes_116] | rw [mDoes_119] | rw [mDoes_d _ _ hd]
  · skip
    · refine pw_lookup hX (off := 131) (tgt := 132) dX4_does_1 (by decide) (by rw [nI_toInt hc]; exact (swX4 _).trans (by rw [if_neg hd.1, if_neg hd.2.1, if_neg hd.2.2.1, if_neg hd.2.2.2.1, if_neg hd.2.2.2.2])) (by decide) ?_
      refine pw_aload_n hX rfl dX4_does_132 (q := 133) rfl ?_
      refine pw_aload_n hX rfl dX4_does_133 (q := 134) rfl ?_
      refine pw_getMS hX 9 (by decide) fl_X4_26 rfl dX4_does_134 (q := 137) rfl ?_
      refine pw_iconst hX (k := 0) rfl (by decide) dX4_does_137 (q := 138) rfl ?_
      refine pw_ialdMS hX 6 (by decide) (show _ < 3 by omega) dX4_does_138 (q := 139) rfl ?_
      repeat first | rw [tV_7] | rw [tV_8] | rw [tV_x] | rw [tV_t] | rw [tV_g] | rw [tV_p7] | rw [tV_p8] | rw [tV_pg] | rw [upN_s]
      refine pw_cvI1 hX dX4_does_139 (q := 142) rfl mi_X4_ticks ml_X4_132 rcM ⟨rfl, rfl, by decide, by decide⟩ rfl (Nat.le_of_ble_eq_true rfl) (c_X4_ticks hB hW) ?_
      refine pw_ireturn hX dX4_does_142 ⟨_, rfl, rfl⟩ ⟨congrArg (fun z => some (Value.int z)) ?_, ?_⟩
      · first | rw [mDoes_98] | rw [mDoes_109] | rw [mDoes_115] | rw [mDoes_116] | rw [mDoes_119] | rw [mDoes_d _ _ hd]
      · first | rw [mDoes_98] | rw [mDoes_109] | rw [mDoes_115] | rw [mDoes_116] | rw [mDoes_119] | rw [mDoes_d _ _ hd]
abbrev rm_X4_doesNext : Room := { frames := 7, cells := 0, slots := 0, locals := 162 }
set_option maxHeartbeats 800000 in
set_option maxRecDepth 20000 in
theorem c_X4_doesNext {l : Launch} {g : Geo} {w : WD} {V : Nat → Nat → Nat} {S : Nat → Nat} {a r : Nat} {G : Nat → Nat} (h6 : V 0 6 ≤ 60) (ha : a < V 0 6) (hT : ∀ j, j < 60 → V 5 j < 65536) (hB : bS S) (hW : bW S) : CtI l g yX4_doesNext cX4_doesNext 2 (some .int) rm_X4_doesNext [.ref (g_ad g 9 0)] (mW w (tV V a r G) S) (nI (tRs (V 5) (V 0 6) S a G)) (mW w (tV V (tForm (V 5) (V 0 6) (V 5 a) (a + 1) G).2.1 r (tForm (V 5) (V 0 6) (V 5 a) (a + 1) G).2.2) (tNS (V 5) (V 0 6) S a G)) := by
  refine ct_of mi_X4_doesNext.2.2.2.2.2 ⟨rfl, rfl⟩ (List.forall_mem_cons.mpr ⟨rfl, fun _ h => absurd h List.not_mem_nil⟩) (Nat.le_of_ble_eq_true rfl) (fun P hX => ?_)
  replace hX : Gd l g RX4 cX4_doesNext rm_X4_doesNext 2 (some .int) _ _ P := hX
  show P (mW w (tV V a r G) S) 0 [some (.ref (g_ad g 9 0)), none] []
  have h7 := hB.2.2.1
  have hca := hT a (by omega)
  refine pw_aload_n hX rfl dX4_doesNext_0 (q := 1) rfl ?_
  refine pw_getMS hX 5 (by decide) fl_X4_22 rfl dX4_doesNext_1 (q := 4) rfl ?_
  refine pw_aload_n hX rfl dX4_doesNext_4 (q := 5) rfl ?_
  refine pw_getMS hX 7 (by decide) fl_X4_157 rfl dX4_doesNext_5 (q := 8) rfl ?_
  repeat first | rw [tV_7] | rw [tV_8] | rw [tV_x] | rw [tV_t] | rw [tV_g] | rw [tV_p7] | rw [tV_p8] | rw [tV_pg] | rw [upN_s]
  refine pw_caldMS hX (by omega) dX4_doesNext_8 (q := 9) rfl ?_
  repeat first | rw [tV_7] | rw [tV_8] | rw [tV_x] | rw [tV_t] | rw [tV_g] | rw [tV_p7] | rw [tV_p8] | rw [tV_pg] | rw [upN_s]
  refine pw_istore_n hX (by decide) dX4_doesNext_9 (q := 10) rfl ?_
  refine pw_aload_n hX rfl dX4_doesNext_10 (q := 11) rfl ?_
  refine pw_dup hX rfl dX4_doesNext_11 (q := 12) rfl ?_
  refine pw_getMS hX 7 (by decide) fl_X4_157 rfl dX4_doesNext_12 (q := 15) rfl ?_
  repeat first | rw [tV_7] | rw [tV_8] | rw [tV_x] | rw [tV_t] | rw [tV_g] | rw [tV_p7] | rw [tV_p8] | rw [tV_pg] | rw [upN_s]
  refine pw_iconst hX (k := 1) rfl (by decide) dX4_doesNext_15 (q := 16) rfl ?_
  refine pw_iaddN hX dX4_doesNext_16 (q := 17) rfl ?_
  refine pw_putMS hX 7 (by decide) fl_X4_157 dX4_doesNext_17 (q := 20) rfl ?_
  repeat first | rw [tV_7] | rw [tV_8] | rw [tV_x] | rw [tV_t] | rw [tV_g] | rw [tV_p7] | rw [tV_p8] | rw [tV_pg] | rw [upN_s]
  refine pw_aload_n hX rfl dX4_doesNext_20 (q := 21) rfl ?_
  refine pw_iload_n hX rfl dX4_doesNext_21 (q := 22) rfl ?_
  refine pw_cvI1 hX dX4_doesNext_22 (q := 25) rfl mi_X4_readsForm ml_X4_167 rcM ⟨rfl, rfl, by decide, by decide⟩ rfl (Nat.le_of_ble_eq_true rfl) (c_X4_readsForm (by omega) h6 (by omega) hT) ?_
  refine pw_ifB_ne hX (tgt := 30) dX4_doesNext_25 (q := 28) rfl (by decide) (fun h_25 => ?_) (fun h_25 => ?_)
  · refine pw_aload_n hX rfl dX4_doesNext_30 (q := 31) rfl ?_
    refine pw_iload_n hX rfl dX4_doesNext_31 (q := 32) rfl ?_
    refine pw_cvI1 hX dX4_doesNext_32 (q := 35) rfl mi_X4_isThere ml_X4_170 rcM ⟨rfl, rfl, by decide, by decide⟩ rfl (Nat.le_of_ble_eq_true rfl) (c_X4_isThere (by omega) hB) ?_
    refine pw_ifB_ne hX (tgt := 42) dX4_doesNext_35 (q := 38) rfl (by decide) (fun h_35 => ?_) (fun h_35 => ?_)
    · refine pw_aload_n hX rfl dX4_doesNext_42 (q := 43) rfl ?_
      refine pw_iload_n hX rfl dX4_doesNext_43 (q := 44) rfl ?_
      refine pw_cvI1 hX dX4_doesNext_44 (q := 47) rfl mi_X4_does ml_X4_173 rcM ⟨rfl, rfl, by decide, by decide⟩ rfl (Nat.le_of_ble_eq_true rfl) (c_X4_does (by omega) hB hW) ?_
      refine pw_ldc hX cn_X4_40 dX4_doesNext_47 (q := 49) rfl ?_
      refine pw_icmp_gt hX (tgt := 56) dX4_doesNext_49 (q := 52) rfl (by decide) (fun h_49 => ?_) (fun h_49 => ?_)
      · refine pw_iconst hX (k := 0) rfl (by decide) dX4_doesNext_56 (q := 57) rfl ?_
        refine pw_ireturn hX dX4_doesNext_57 ⟨_, rfl, rfl⟩ ⟨congrArg (fun z => some (Value.int z)) ?_, ?_⟩
        · first | (rw [tRs, if_pos h_25, if_neg (by simp [h_35])]; done) | (rw [tRs, if_pos h_25, if_pos h_35, if_neg (by omega)]; done) | (rw [tRs, if_pos h_25, if_pos h_35, if_pos h_49]; done) | (rw [tRs, if_pos h_25, if_pos h_35, if_neg (Int32.not_lt.mpr h_49)]; done)
        · first | (rw [tNS, if_neg (fun z => by rw [h_35] at z; exact absurd z.2 (by decide))]; done) | (rw [tNS, if_pos ⟨h_25, h_35⟩]; done)
      · refine pw_iconst hX (k := 3) rfl (by decide) dX4_doesNext_52 (q := 53) rfl ?_
        refine pw_goto hX (tgt := 57) dX4_doesNext_53 (by decide) ?_
        refine pw_ireturn hX dX4_doesNext_57 ⟨_, rfl, rfl⟩ ⟨congrArg (fun z => some (Value.int z)) ?_, ?_⟩
        · first | (rw [tRs, if_pos h_25, if_neg (by simp [h_35])]; done) | (rw [tRs, if_pos h_25, if_pos h_35, if_neg (by omega)]; done) | (rw [tRs, if_pos h_25, if_pos h_35, if_pos h_49]; done) | (rw [tRs, if_pos h_25, if_pos h_35, if_neg (Int32.not_lt.mpr h_49)]; done)
        · first | (rw [tNS, if_neg (fun z => by rw [h_35] at z; exact absurd z.2 (by decide))]; done) | (rw [tNS, if_pos ⟨h_25, h_35⟩]; done)
    · refine pw_iconst hX (k := 2) rfl (by decide) dX4_doesNext_38 (q := 39) rfl ?_
      refine pw_goto hX (tgt := 57) dX4_doesNext_39 (by decide) ?_
      refine pw_ireturn hX dX4_doesNext_57 ⟨_, rfl, rfl⟩ ⟨congrArg (fun z => some (Value.int z)) ?_, ?_⟩
      · first | (rw [tRs, if_pos h_25, if_neg (by simp [h_35])]; done) | (rw [tRs, if_pos h_25, if_pos h_35, if_neg (by omega)]; done) | (rw [tRs, if_pos h_25, if_pos h_35, if_pos h_49]; done) | (rw [tRs, if_pos h_25, if_pos h_35, if_neg (Int32.not_lt.mpr h_49)]; done)
      · first | (rw [tNS, if_neg (fun z => by rw [h_35] at z; exact absurd z.2 (by decide))]; done) | (rw [tNS, if_pos ⟨h_25, h_35⟩]; done)
  · refine pw_iconst hX (k := 1) rfl (by decide) dX4_doesNext_28 (q := 29) rfl ?_
    refine pw_ireturn hX dX4_doesNext_29 ⟨_, rfl, rfl⟩ ⟨congrArg (fun z => some (Value.int z)) ?_, ?_⟩
    · rw [tRs, if_neg (by simp [h_25])]
    · rw [tNS, if_neg (fun z => by rw [h_25] at z; exact absurd z.1 (by decide))]
theorem tV_x4 (V : Nat → Nat → Nat) (a r : Nat) (G f : Nat → Nat) : tV (vA V 4 f) a r G 0 6 = V 0 6 := rfl
abbrev rm_X4_faulty : Room := { frames := 8, cells := 0, slots := 0, locals := 183 }
set_option maxHeartbeats 800000 in
set_option maxRecDepth 20000 in
theorem c_X4_faulty {l : Launch} {g : Geo} {w : WD} {V : Nat → Nat → Nat} {S : Nat → Nat} {a r : Nat} {G : Nat → Nat} {N : Nat} (h6 : V 0 6 ≤ 60) (hT : ∀ j, j < 60 → V 5 j < 65536) (hI : mI S N) (hN : N + 100 < 2 ^ 30) : CtE l g yX4_faulty cX4_faulty 3 (some .int) rm_X4_faulty [.ref (g_ad g 9 0)] (mW w (tV V a r G) S) (ff (fF (V 5) (V 0 6) (V 0 6) S 0 G).1) (fun z => ∃ (a' r' : Nat) (G' : Nat → Nat), z = mW w (tV (vA V 4 S) a' r' G') S ∧ ((fF (V 5) (V 0 6) (V 0 6) S 0 G).1 ≠ 0 → r' = (fF (V 5) (V 0 6) (V 0 6) S 0 G).2)) := by
  refine ct_of mi_X4_faulty.2.2.2.2.2 ⟨rfl, rfl⟩ (List.forall_mem_cons.mpr ⟨rfl, fun _ h => absurd h List.not_mem_nil⟩) (Nat.le_of_ble_eq_true rfl) (fun P hX => ?_)
  replace hX : Gd l g RX4 cX4_faulty rm_X4_faulty 3 (some .int) _ _ P := hX
  show P (mW w (tV V a r G) S) 0 [some (.ref (g_ad g 9 0)), none, none] []
  refine pw_aload_n hX rfl dX4_faulty_0 (q := 1) rfl ?_
  refine pw_cvV0 hX dX4_faulty_1 (q := 4) rfl mi_X4_puts ml_X4_135 rcM ⟨rfl, rfl, by decide, by decide⟩ rfl (Nat.le_of_ble_eq_true rfl) (c_X4_puts) ?_
  rw [tV_a4]
  obtain ⟨V4, e4, e5, e0, e44⟩ : ∃ V4, V4 = vA V 4 S ∧ V4 5 = V 5 ∧ V4 0 = V 0 ∧ V4 4 = S := ⟨_, rfl, rfl, rfl, by rw [vA_s]⟩
  rw [← e4]
  have h6b : V4 0 6 ≤ 60 := by rw [e0]; exact h6
  have hTb : ∀ j, j < 60 → V4 5 j < 65536 := by rw [e5]; exact hT
  refine pw_ldc hX cn_X4_80 dX4_faulty_4 (q := 6) rfl ?_
  refine pw_istore_n hX (by decide) dX4_faulty_6 (q := 7) rfl ?_
  refine pw_aload_n hX rfl dX4_faulty_7 (q := 8) rfl ?_
  refine pw_iconst hX (k := 0) rfl (by decide) dX4_faulty_8 (q := 9) rfl ?_
  refine pw_putMS hX 7 (by decide) fl_X4_157 dX4_faulty_9 (q := 12) rfl ?_
  repeat first | rw [tV_7] | rw [tV_8] | rw [tV_x] | rw [tV_t] | rw [tV_g] | rw [tV_p7] | rw [tV_p8] | rw [tV_pg] | rw [upN_s]
  suffices L : ∀ f a1 S1 G1 r1 N1, V4 0 6 ≤ a1 + f → a1 ≤ V4 0 6 → mI S1 N1 → N1 + f < 2 ^ 30 → fF (V4 5) (V4 0 6) f S1 a1 G1 = fF (V 5) (V 0 6) (V 0 6) S 0 G → P (mW w (tV V4 a1 r1 G1) S1) 12 [some (.ref (g_ad g 9 0)), some (.int (-1000004)), none] [] by exact L (V4 0 6) 0 S G r N (by omega) (Nat.zero_le _) hI (by omega) (by rw [e5, e0])
  refine loopDn (fun f ih => ?_)
  intro a1 S1 G1 r1 N1 hf ha1 hI1 hN1 hF
  have hrl := tRs_le (V4 5) (V4 0 6) S1 a1 G1
  refine pw_aload_n hX rfl dX4_faulty_12 (q := 13) rfl ?_
  refine pw_getMS hX 7 (by decide) fl_X4_157 rfl dX4_faulty_13 (q := 16) rfl ?_
  repeat first | rw [tV_7] | rw [tV_8] | rw [tV_x] | rw [tV_t] | rw [tV_g] | rw [tV_p7] | rw [tV_p8] | rw [tV_pg] | rw [upN_s]
  refine pw_aload_n hX rfl dX4_faulty_16 (q := 17) rfl ?_
  refine pw_getMS hX 6 (by decide) fl_X4_154 rfl dX4_faulty_17 (q := 20) rfl ?_
  repeat first | rw [tV_7] | rw [tV_8] | rw [tV_x] | rw [tV_t] | rw [tV_g] | rw [tV_p7] | rw [tV_p8] | rw [tV_pg] | rw [upN_s]
  refine pw_icmpN_ge hX (by first | omega | exact Nat.lt_of_le_of_lt hrl (by decide)) (by first | omega | exact Nat.lt_of_le_of_lt hrl (by decide)) (tgt := 58) dX4_faulty_20 (q := 23) rfl (by decide) (fun h_20 => ?_) (fun h_20 => ?_)
  · rw [fF_d (by omega)] at hF
    refine pw_aload_n hX rfl dX4_faulty_58 (q := 59) rfl ?_
    refine pw_cvV0 hX dX4_faulty_59 (q := 62) rfl mi_X4_restores ml_X4_138 rcM ⟨rfl, rfl, by decide, by decide⟩ rfl (Nat.le_of_ble_eq_true rfl) (c_X4_restores) ?_
    rw [tV_4, e44]
    refine pw_iload_n hX rfl dX4_faulty_62 (q := 63) rfl ?_
    refine pw_ireturn hX dX4_faulty_63 ⟨_, rfl, rfl⟩ ⟨congrArg (fun z => some (Value.int z)) ?_, ?_⟩
    · rw [← hF]; first | rfl | (exact (ff_s _).symm)
    · refine ⟨_, _, _, by rw [e4], fun z => ?_⟩; rw [← hF] at z ⊢; first | rfl | exact absurd rfl z | (subst e4; rfl)
  · refine pw_iload_n hX rfl dX4_faulty_23 (q := 24) rfl ?_
    refine pw_ldc hX cn_X4_80 dX4_faulty_24 (q := 26) rfl ?_
    refine pw_icmp_ne hX (tgt := 58) dX4_faulty_26 (q := 29) rfl (by decide) (fun h_26 => ?_) (fun h_26 => ?_)
    · exact absurd rfl h_26
    · refine pw_aload_n hX rfl dX4_faulty_29 (q := 30) rfl ?_
      refine pw_getMS hX 7 (by decide) fl_X4_157 rfl dX4_faulty_30 (q := 33) rfl ?_
      repeat first | rw [tV_7] | rw [tV_8] | rw [tV_x] | rw [tV_t] | rw [tV_g] | rw [tV_p7] | rw [tV_p8] | rw [tV_pg] | rw [upN_s]
      refine pw_istore_n hX (by decide) dX4_faulty_33 (q := 34) rfl ?_
      refine pw_aload_n hX rfl dX4_faulty_34 (q := 35) rfl ?_
      refine pw_aload_n hX rfl dX4_faulty_35 (q := 36) rfl ?_
      refine pw_cvI0 hX dX4_faulty_36 (q := 39) rfl mi_X4_doesNext ml_X4_177 rcM ⟨rfl, rfl, by decide, by decide⟩ rfl (Nat.le_of_ble_eq_true rfl) (c_X4_doesNext h6b (by omega) hTb hI1.1 hI1.2.1) ?_
      refine pw_putMS hX 8 (by decide) fl_X4_180 dX4_faulty_39 (q := 42) rfl ?_
      repeat first | rw [tV_7] | rw [tV_8] | rw [tV_x] | rw [tV_t] | rw [tV_g] | rw [tV_p7] | rw [tV_p8] | rw [tV_pg] | rw [upN_s]
      refine pw_aload_n hX rfl dX4_faulty_42 (q := 43) rfl ?_
      refine pw_getMS hX 8 (by decide) fl_X4_180 rfl dX4_faulty_43 (q := 46) rfl ?_
      repeat first | rw [tV_7] | rw [tV_8] | rw [tV_x] | rw [tV_t] | rw [tV_g] | rw [tV_p7] | rw [tV_p8] | rw [tV_pg] | rw [upN_s]
      refine pw_ifN_le hX (by first | omega | exact Nat.lt_of_le_of_lt hrl (by decide)) (tgt := 53) dX4_faulty_46 (q := 49) rfl (by decide) (fun h_46 => ?_) (fun h_46 => ?_)
      · refine pw_iload_n hX rfl dX4_faulty_53 (q := 54) rfl ?_
        refine pw_istore_n hX (by decide) dX4_faulty_54 (q := 55) rfl ?_
        refine pw_goto hX (tgt := 12) dX4_faulty_55 (by decide) ?_
        rw [fF_s (by omega) (by omega), if_neg (show ¬ 0 < tRs (V4 5) (V4 0 6) S1 a1 G1 by omega)] at hF
        have hXa := tForm_X (T := V4 5) (X := V4 0 6) (c := V4 5 a1) (a := a1 + 1) (G := G1) (by omega)
        exact pw_fg hX (lv' := [_, _, none]) (by repeat first | exact lle_nil | refine lle_cons ?_ | refine lle_none ?_) (ih (by omega) _ _ _ _ (N1 + 1) (by omega) hXa.2 (mI_NS hI1 (by omega)) (by omega) hF)
      · refine pw_iload_n hX rfl dX4_faulty_49 (q := 50) rfl ?_
        refine pw_goto hX (tgt := 54) dX4_faulty_50 (by decide) ?_
        refine pw_istore_n hX (by decide) dX4_faulty_54 (q := 55) rfl ?_
        refine pw_goto hX (tgt := 12) dX4_faulty_55 (by decide) ?_
        rw [fF_s (by omega) (by omega), if_pos (show 0 < tRs (V4 5) (V4 0 6) S1 a1 G1 by omega)] at hF
        have hXa := tForm_X (T := V4 5) (X := V4 0 6) (c := V4 5 a1) (a := a1 + 1) (G := G1) (by omega)
        refine pw_aload_n hX rfl dX4_faulty_12 (q := 13) rfl ?_
        refine pw_getMS hX 7 (by decide) fl_X4_157 rfl dX4_faulty_13 (q := 16) rfl ?_
        repeat first | rw [tV_7] | rw [tV_8] | rw [tV_x] | rw [tV_t] | rw [tV_g] | rw [tV_p7] | rw [tV_p8] | rw [tV_pg] | rw [upN_s]
        refine pw_aload_n hX rfl dX4_faulty_16 (q := 17) rfl ?_
        refine pw_getMS hX 6 (by decide) fl_X4_154 rfl dX4_faulty_17 (q := 20) rfl ?_
        repeat first | rw [tV_7] | rw [tV_8] | rw [tV_x] | rw [tV_t] | rw [tV_g] | rw [tV_p7] | rw [tV_p8] | rw [tV_pg] | rw [upN_s]
        refine pw_icmpN_ge hX (by first | omega | exact Nat.lt_of_le_of_lt hrl (by decide)) (by first | omega | exact Nat.lt_of_le_of_lt hrl (by decide)) (tgt := 58) dX4_faulty_20 (q := 23) rfl (by decide) (fun h_20 => ?_) (fun h_20 => ?_)
        · refine pw_aload_n hX rfl dX4_faulty_58 (q := 59) rfl ?_
          refine pw_cvV0 hX dX4_faulty_59 (q := 62) rfl mi_X4_restores ml_X4_138 rcM ⟨rfl, rfl, by decide, by decide⟩ rfl (Nat.le_of_ble_eq_true rfl) (c_X4_restores) ?_
          rw [tV_4, e44]
          refine pw_iload_n hX rfl dX4_faulty_62 (q := 63) rfl ?_
          refine pw_ireturn hX dX4_faulty_63 ⟨_, rfl, rfl⟩ ⟨congrArg (fun z => some (Value.int z)) ?_, ?_⟩
          · rw [← hF]; first | rfl | (exact (ff_s _).symm)
          · refine ⟨_, _, _, by rw [e4], fun z => ?_⟩; rw [← hF] at z ⊢; first | rfl | exact absurd rfl z | (subst e4; rfl)
        · refine pw_iload_n hX rfl dX4_faulty_23 (q := 24) rfl ?_
          refine pw_ldc hX cn_X4_80 dX4_faulty_24 (q := 26) rfl ?_
          refine pw_icmp_ne hX (tgt := 58) dX4_faulty_26 (q := 29) rfl (by decide) (fun h_26 => ?_) (fun h_26 => ?_)
          · refine pw_aload_n hX rfl dX4_faulty_58 (q := 59) rfl ?_
            refine pw_cvV0 hX dX4_faulty_59 (q := 62) rfl mi_X4_restores ml_X4_138 rcM ⟨rfl, rfl, by decide, by decide⟩ rfl (Nat.le_of_ble_eq_true rfl) (c_X4_restores) ?_
            rw [tV_4, e44]
            refine pw_iload_n hX rfl dX4_faulty_62 (q := 63) rfl ?_
            refine pw_ireturn hX dX4_faulty_63 ⟨_, rfl, rfl⟩ ⟨congrArg (fun z => some (Value.int z)) ?_, ?_⟩
            · rw [← hF]; first | rfl | (exact (ff_s _).symm)
            · refine ⟨_, _, _, by rw [e4], fun z => ?_⟩; rw [← hF] at z ⊢; first | rfl | exact absurd rfl z | (subst e4; rfl)
          · exact absurd h_26 (nI_nn (by omega) (by decide))
def mFault (V : Nat → Nat → Nat) (S : Nat → Nat) (v : Int32) : Int32 := if inN 0 1 v = true then (if (fF (V 5) (V 0 6) (V 0 6) S 0 (V 6)).1 = 0 ∨ ix v = 0 then ff (fF (V 5) (V 0 6) (V 0 6) S 0 (V 6)).1 else nI (fF (V 5) (V 0 6) (V 0 6) S 0 (V 6)).2) else -1000001
theorem ff_no {x : Nat} (h : x ≠ 0) (hx : x < 2 ^ 31) : ff x ≠ -1000004 := by
  rcases x with _ | x
  · exact absurd rfl h
  · exact nI_nn (by omega) (by decide)
theorem fF_b (T : Nat → Nat) (X : Nat) : ∀ f S a (G : Nat → Nat), (fF T X f S a G).1 ≤ X ∧ (fF T X f S a G).2 ≤ 3
  | 0, _, _, _ => ⟨Nat.zero_le _, Nat.zero_le _⟩
  | f + 1, S, a, G => by
    unfold fF
    split
    · split
      · exact ⟨by show a + 1 ≤ X; omega, tRs_le _ _ _ _ _⟩
      · exact fF_b T X f _ _ _
    · exact ⟨Nat.zero_le _, Nat.zero_le _⟩
theorem c_X4_faultyV {l : Launch} {g : Geo} {w : WD} {V : Nat → Nat → Nat} {S : Nat → Nat} {N : Nat} (h6 : V 0 6 ≤ 60) (hT : ∀ j, j < 60 → V 5 j < 65536) (hI : mI S N) (hN : N + 100 < 2 ^ 30) : CtE l g yX4_faulty cX4_faulty 3 (some .int) rm_X4_faulty [.ref (g_ad g 9 0)] (mW w V S) (ff (fF (V 5) (V 0 6) (V 0 6) S 0 (V 6)).1) (fun z => ∃ (a' r' : Nat) (G' : Nat → Nat), z = mW w (tV (vA V 4 S) a' r' G') S ∧ ((fF (V 5) (V 0 6) (V 0 6) S 0 (V 6)).1 ≠ 0 → r' = (fF (V 5) (V 0 6) (V 0 6) S 0 (V 6)).2)) := by
  have h := c_X4_faulty (l := l) (g := g) (w := w) (V := V) (S := S) (a := V 0 7) (r := V 0 8) (G := V 6) (N := N) h6 hT hI hN
  rw [tV_id] at h
  exact h
theorem sV_tV {V : Nat → Nat → Nat} {S : Nat → Nat} (a r : Nat) (G : Nat → Nat) : sV V (tV (vA V 4 S) a r G) := ⟨rfl, rfl, rfl, rfl⟩
abbrev rm_X4_fault : Room := { frames := 9, cells := 0, slots := 0, locals := 205 }
set_option maxHeartbeats 800000 in
set_option maxRecDepth 20000 in
theorem c_X4_fault {l : Launch} {g : Geo} {w : WD} {V : Nat → Nat → Nat} {S : Nat → Nat} {v : Int32} {N : Nat} (h6 : V 0 6 ≤ 60) (hT : ∀ j, j < 60 → V 5 j < 65536) (hI : mI S N) (hN : N + 100 < 2 ^ 30) : CtE l g yX4_fault cX4_fault 3 (some .int) rm_X4_fault [.ref (g_ad g 9 0), .int v] (mW w V S) (mFault V S v) (fun z => ∃ V1, sV V V1 ∧ z = mW w V1 S) := by
  refine ct_of mi_X4_fault.2.2.2.2.2 ⟨rfl, rfl⟩ (List.forall_mem_cons.mpr ⟨rfl, List.forall_mem_cons.mpr ⟨rfl, fun _ h => absurd h List.not_mem_nil⟩⟩) (Nat.le_of_ble_eq_true rfl) (fun P hX => ?_)
  replace hX : Gd l g RX4 cX4_fault rm_X4_fault 3 (some .int) _ _ P := hX
  show P (mW w V S) 0 [some (.ref (g_ad g 9 0)), some (.int v), none] []
  have hb := fF_b (V 5) (V 0 6) (V 0 6) S 0 (V 6)
  refine pw_iload_n hX rfl dX4_fault_0 (q := 1) rfl ?_
  refine pw_iconst hX (k := 0) rfl (by decide) dX4_fault_1 (q := 2) rfl ?_
  refine pw_iconst hX (k := 1) rfl (by decide) dX4_fault_2 (q := 3) rfl ?_
  refine pw_csI3 hX dX4_fault_3 (q := 6) rfl mi_X4_in ml_X4_33 ⟨rfl, rfl, by decide, by decide⟩ rfl (Nat.le_of_ble_eq_true rfl) (c_X4_inN (by decide) (by decide)) ?_
  refine pw_ifB_ne hX (tgt := 12) dX4_fault_6 (q := 9) rfl (by decide) (fun h_6 => ?_) (fun h_6 => ?_)
  · obtain ⟨k, -, hk, rfl⟩ := inN_of (by decide) h_6
    have hxk : ix (nI k) = k := ix_nI (by omega)
    refine pw_aload_n hX rfl dX4_fault_12 (q := 13) rfl ?_
    refine pw_cvE0 hX dX4_fault_13 (q := 16) rfl mi_X4_faulty ml_X4_183 rcM ⟨rfl, rfl, by decide, by decide⟩ rfl (Nat.le_of_ble_eq_true rfl) (c_X4_faultyV h6 hT hI hN) (fun w2 hZ => ?_)
    obtain ⟨a1, r1, G1, rfl, hr⟩ := hZ
    refine pw_istore_n hX (by decide) dX4_fault_16 (q := 17) rfl ?_
    refine pw_iload_n hX rfl dX4_fault_17 (q := 18) rfl ?_
    refine pw_ldc hX cn_X4_80 dX4_fault_18 (q := 20) rfl ?_
    refine pw_icmp_eq hX (tgt := 27) dX4_fault_20 (q := 23) rfl (by decide) (fun h_20 => ?_) (fun h_20 => ?_)
    · have h0 : (fF (V 5) (V 0 6) (V 0 6) S 0 (V 6)).1 = 0 := Decidable.byContradiction (fun z => ff_no z (by omega) h_20)
      refine pw_iload_n hX rfl dX4_fault_27 (q := 28) rfl ?_
      refine pw_goto hX (tgt := 35) dX4_fault_28 (by decide) ?_
      refine pw_ireturn hX dX4_fault_35 ⟨_, rfl, rfl⟩ ⟨congrArg (fun z => some (Value.int z)) ?_, ?_⟩
      · rw [mFault, if_pos h_6, hxk]; first | (rw [if_pos (Or.inl h0)]; done) | (rw [if_pos (Or.inr (by omega))]; done) | (rw [if_neg (fun z => z.elim h0 (by omega)), hr h0]; done)
      · exact ⟨_, sV_tV _ _ _, rfl⟩
    · refine pw_iload_n hX rfl dX4_fault_23 (q := 24) rfl ?_
      refine pw_ifN_ne hX (by first | omega) (tgt := 31) dX4_fault_24 (q := 27) rfl (by decide) (fun h_24 => ?_) (fun h_24 => ?_)
      · have h0 : (fF (V 5) (V 0 6) (V 0 6) S 0 (V 6)).1 ≠ 0 := fun z => h_20 (by rw [z]; rfl)
        refine pw_aload_n hX rfl dX4_fault_31 (q := 32) rfl ?_
        refine pw_getMS hX 8 (by decide) fl_X4_180 rfl dX4_fault_32 (q := 35) rfl ?_
        repeat first | rw [tV_7] | rw [tV_8] | rw [tV_x] | rw [tV_t] | rw [tV_g] | rw [tV_p7] | rw [tV_p8] | rw [tV_pg] | rw [upN_s]
        refine pw_ireturn hX dX4_fault_35 ⟨_, rfl, rfl⟩ ⟨congrArg (fun z => some (Value.int z)) ?_, ?_⟩
        · rw [mFault, if_pos h_6, hxk]; first | (rw [if_pos (Or.inl h0)]; done) | (rw [if_pos (Or.inr (by omega))]; done) | (rw [if_neg (fun z => z.elim h0 (by omega)), hr h0]; done)
        · exact ⟨_, sV_tV _ _ _, rfl⟩
      · refine pw_iload_n hX rfl dX4_fault_27 (q := 28) rfl ?_
        refine pw_goto hX (tgt := 35) dX4_fault_28 (by decide) ?_
        refine pw_ireturn hX dX4_fault_35 ⟨_, rfl, rfl⟩ ⟨congrArg (fun z => some (Value.int z)) ?_, ?_⟩
        · rw [mFault, if_pos h_6, hxk]; first | (rw [if_pos (Or.inl h0)]; done) | (rw [if_pos (Or.inr (by omega))]; done) | (rw [if_neg (fun z => z.elim h0 (by omega)), hr h0]; done)
        · exact ⟨_, sV_tV _ _ _, rfl⟩
  · refine pw_ldc hX cn_X4_40 dX4_fault_9 (q := 11) rfl ?_
    refine pw_ireturn hX dX4_fault_11 ⟨_, rfl, rfl⟩ ⟨congrArg (fun z => some (Value.int z)) ?_, ?_⟩
    · rw [mFault, if_neg (by simp [h_6])]
    · exact ⟨V, sV_rf V, rfl⟩
def mPlay (V : Nat → Nat → Nat) (S : Nat → Nat) : Int32 := if (fF (V 5) (V 0 6) (V 0 6) S 0 (V 6)).1 = 0 then nI (pF (V 5) (V 0 6) (V 0 6) S 0 (V 6) 0).1 else -1000002
abbrev rm_X4_play : Room := { frames := 9, cells := 0, slots := 0, locals := 205 }
set_option maxHeartbeats 800000 in
set_option maxRecDepth 20000 in
theorem c_X4_play {l : Launch} {g : Geo} {w : WD} {V : Nat → Nat → Nat} {S : Nat → Nat} {N : Nat} (h4 : V 0 4 ≤ 4) (h6 : V 0 6 ≤ 60) (hT : ∀ j, j < 60 → V 5 j < 65536) (hI : mI S N) (hN : N + 100 < 2 ^ 30) : CtE l g yX4_play cX4_play 2 (some .int) rm_X4_play [.ref (g_ad g 9 0)] (mW w V S) (mPlay V S) (fun z => if (fF (V 5) (V 0 6) (V 0 6) S 0 (V 6)).1 = 0 then ∃ (a' r' : Nat) (G' : Nat → Nat), z = mW w (mPush (tV (vA (vA V 4 S) 3 S) a' r' G')) (pF (V 5) (V 0 6) (V 0 6) S 0 (V 6) 0).2 else ∃ V1, sV V V1 ∧ z = mW w V1 S) := by
  refine ct_of mi_X4_play.2.2.2.2.2 ⟨rfl, rfl⟩ (List.forall_mem_cons.mpr ⟨rfl, fun _ h => absurd h List.not_mem_nil⟩) (Nat.le_of_ble_eq_true rfl) (fun P hX => ?_)
  replace hX : Gd l g RX4 cX4_play rm_X4_play 2 (some .int) _ _ P := hX
  show P (mW w V S) 0 [some (.ref (g_ad g 9 0)), none] []
  have hb := fF_b (V 5) (V 0 6) (V 0 6) S 0 (V 6)
  refine pw_aload_n hX rfl dX4_play_0 (q := 1) rfl ?_
  refine pw_cvE0 hX dX4_play_1 (q := 4) rfl mi_X4_faulty ml_X4_183 rcM ⟨rfl, rfl, by decide, by decide⟩ rfl (Nat.le_of_ble_eq_true rfl) (c_X4_faultyV h6 hT hI hN) (fun w2 hZ => ?_)
  obtain ⟨a0, r0, G0, rfl, hr⟩ := hZ
  refine pw_ldc hX cn_X4_80 dX4_play_4 (q := 6) rfl ?_
  refine pw_icmp_eq hX (tgt := 12) dX4_play_6 (q := 9) rfl (by decide) (fun h_6 => ?_) (fun h_6 => ?_)
  · have h0 : (fF (V 5) (V 0 6) (V 0 6) S 0 (V 6)).1 = 0 := Decidable.byContradiction (fun z => ff_no z (by omega) h_6)
    refine pw_aload_n hX rfl dX4_play_12 (q := 13) rfl ?_
    refine pw_cvV0 hX dX4_play_13 (q := 16) rfl mi_X4_keeps ml_X4_46 rcM ⟨rfl, rfl, by decide, by decide⟩ rfl (Nat.le_of_ble_eq_true rfl) (c_X4_keeps) ?_
    rw [tV_a3]
    obtain ⟨V4, e4, e5, e0⟩ : ∃ V4, V4 = vA (vA V 4 S) 3 S ∧ V4 5 = V 5 ∧ V4 0 = V 0 := ⟨_, rfl, rfl, rfl⟩
    rw [← e4]
    have h6b : V4 0 6 ≤ 60 := by rw [e0]; exact h6
    have hTb : ∀ j, j < 60 → V4 5 j < 65536 := by rw [e5]; exact hT
    refine pw_iconst hX (k := 0) rfl (by decide) dX4_play_16 (q := 17) rfl ?_
    refine pw_istore_n hX (by decide) dX4_play_17 (q := 18) rfl ?_
    refine pw_aload_n hX rfl dX4_play_18 (q := 19) rfl ?_
    refine pw_iconst hX (k := 0) rfl (by decide) dX4_play_19 (q := 20) rfl ?_
    refine pw_putMS hX 7 (by decide) fl_X4_157 dX4_play_20 (q := 23) rfl ?_
    repeat first | rw [tV_7] | rw [tV_8] | rw [tV_x] | rw [tV_t] | rw [tV_g] | rw [tV_p7] | rw [tV_p8] | rw [tV_pg] | rw [upN_s]
    suffices L : ∀ f a1 S1 G1 r1 N1 n, n + f ≤ V4 0 6 → V4 0 6 ≤ a1 + f → a1 ≤ V4 0 6 → mI S1 N1 → N1 + f < 2 ^ 30 → (fF (V4 5) (V4 0 6) f S1 a1 G1).1 = 0 → pF (V4 5) (V4 0 6) f S1 a1 G1 n = pF (V 5) (V 0 6) (V 0 6) S 0 (V 6) 0 → P (mW w (tV V4 a1 r1 G1) S1) 23 [some (.ref (g_ad g 9 0)), some (.int (nI n))] [] by exact L (V4 0 6) 0 S G0 r0 N 0 (by omega) (by omega) (Nat.zero_le _) hI (by omega) (by rw [e5, e0, fF_G _ _ _ _ _ G0 (V 6)]; exact h0) (by rw [e5, e0]; exact pF_G _ _ _ _ _ _ _ _)
    refine loopDn (fun f ih => ?_)
    intro a1 S1 G1 r1 N1 n hn hf ha1 hI1 hN1 hF hp
    have hrl := tRs_le (V4 5) (V4 0 6) S1 a1 G1
    refine pw_aload_n hX rfl dX4_play_23 (q := 24) rfl ?_
    refine pw_getMS hX 7 (by decide) fl_X4_157 rfl dX4_play_24 (q := 27) rfl ?_
    repeat first | rw [tV_7] | rw [tV_8] | rw [tV_x] | rw [tV_t] | rw [tV_g] | rw [tV_p7] | rw [tV_p8] | rw [tV_pg] | rw [upN_s]
    refine pw_aload_n hX rfl dX4_play_27 (q := 28) rfl ?_
    refine pw_getMS hX 6 (by decide) fl_X4_154 rfl dX4_play_28 (q := 31) rfl ?_
    repeat first | rw [tV_7] | rw [tV_8] | rw [tV_x] | rw [tV_t] | rw [tV_g] | rw [tV_p7] | rw [tV_p8] | rw [tV_pg] | rw [upN_s]
    refine pw_icmpN_ge hX (by first | omega) (by first | omega) (tgt := 52) dX4_play_31 (q := 34) rfl (by decide) (fun h_31 => ?_) (fun h_31 => ?_)
    · rw [pF_d (by omega)] at hp
      refine pw_aload_n hX rfl dX4_play_52 (q := 53) rfl ?_
      refine pw_iload_n hX rfl dX4_play_53 (q := 54) rfl ?_
      refine pw_cvI1 hX dX4_play_54 (q := 57) rfl mi_X4_acted ml_X4_49 rcM ⟨rfl, rfl, by decide, by decide⟩ rfl (Nat.le_of_ble_eq_true rfl) (c_X4_acted (show V4 0 4 ≤ 4 by rw [e0]; exact h4)) ?_
      refine pw_ireturn hX dX4_play_57 ⟨_, rfl, rfl⟩ ⟨congrArg (fun z => some (Value.int z)) ?_, ?_⟩
      · rw [mPlay, if_pos h0, ← hp]
      · dsimp only; rw [if_pos h0, ← hp, mActed_n _ (by omega)]; exact ⟨_, _, _, by rw [e4]⟩
    · refine pw_iload_n hX rfl dX4_play_34 (q := 35) rfl ?_
      refine pw_aload_n hX rfl dX4_play_35 (q := 36) rfl ?_
      refine pw_cvI0 hX dX4_play_36 (q := 39) rfl mi_X4_doesNext ml_X4_177 rcM ⟨rfl, rfl, by decide, by decide⟩ rfl (Nat.le_of_ble_eq_true rfl) (c_X4_doesNext h6b (by omega) hTb hI1.1 hI1.2.1) ?_
      have hz : tRs (V4 5) (V4 0 6) S1 a1 G1 = 0 := by
        rw [fF_s (by omega) (by omega)] at hF
        by_cases hq : 0 < tRs (V4 5) (V4 0 6) S1 a1 G1
        · rw [if_pos hq] at hF; exact absurd hF (by simp)
        · omega
      rw [fF_s (by omega) (by omega), if_neg (show ¬ 0 < tRs (V4 5) (V4 0 6) S1 a1 G1 by omega)] at hF
      refine pw_ifN_ne hX (by first | omega) (tgt := 46) dX4_play_39 (q := 42) rfl (by decide) (fun h_39 => ?_) (fun h_39 => ?_)
      · refine pw_iconst hX (k := 0) rfl (by decide) dX4_play_46 (q := 47) rfl ?_
        refine pw_iaddN hX dX4_play_47 (q := 48) rfl ?_
        refine pw_istore_n hX (by decide) dX4_play_48 (q := 49) rfl ?_
        refine pw_goto hX (tgt := 23) dX4_play_49 (by decide) ?_
        exact absurd h_39 (by omega)
      · refine pw_iconst hX (k := 1) rfl (by decide) dX4_play_42 (q := 43) rfl ?_
        refine pw_goto hX (tgt := 47) dX4_play_43 (by decide) ?_
        refine pw_iaddN hX dX4_play_47 (q := 48) rfl ?_
        refine pw_istore_n hX (by decide) dX4_play_48 (q := 49) rfl ?_
        refine pw_goto hX (tgt := 23) dX4_play_49 (by decide) ?_
        rw [pF_s (by omega) (by omega)] at hp
        have hXa := tForm_X (T := V4 5) (X := V4 0 6) (c := V4 5 a1) (a := a1 + 1) (G := G1) (by omega)
        exact ih (by omega) _ _ _ _ (N1 + 1) (n + 1) (by omega) (by omega) hXa.2 (mI_NS hI1 (by omega)) (by omega) hF hp
  · have h0 : (fF (V 5) (V 0 6) (V 0 6) S 0 (V 6)).1 ≠ 0 := fun z => h_6 (by rw [z]; rfl)
    refine pw_ldc hX cn_X4_60 dX4_play_9 (q := 11) rfl ?_
    refine pw_ireturn hX dX4_play_11 ⟨_, rfl, rfl⟩ ⟨congrArg (fun z => some (Value.int z)) ?_, ?_⟩
    · rw [mPlay, if_neg h0]
    · dsimp only; rw [if_neg h0]; exact ⟨_, sV_tV _ _ _, rfl⟩
