theorem rV_cp {V : Nat → Nat → Nat} {S : Nat → Nat} (U : Nat → Nat → Nat) (h : rV V S) : rV (kCp U V) S := by
  refine ⟨h.1, fun u hu => h.2.1 u hu, fun u t hu ht => ?_, fun u t hu ht => h.2.2.2.1 u t hu ht, fun t ht => h.2.2.2.2 t ht⟩
  refine rE_c (h.2.2.1 u t hu ht) (fun k a b => ?_) (fun k hk => rfl)
  unfold kCp
  rw [if_neg (by omega), if_pos (by omega)]
theorem jV_cp {V : Nat → Nat → Nat} (U : Nat → Nat → Nat) (h : jV V) : jV (kCp U V) := h
theorem rG_cp {V : Nat → Nat → Nat} {S : Nat → Nat} {N : Nat} (U : Nat → Nat → Nat) (h : rG V S N) : rG (kCp U V) S N := ⟨⟨rV_cp U h.1.1, h.1.2.1, h.1.2.2.1, jV_cp U h.1.2.2.2.1, h.1.2.2.2.2⟩, h.2⟩
theorem kTwo_iff {V : Nat → Nat → Nat} {S : Nat → Nat} (h : rV V S) (v u : Int32) : kTwo V v u = true ↔ hasN (S 0) v = true ∧ hasN (S 0) u = true ∧ v ≠ u := by
  unfold kTwo
  rw [h.1.1, Bool.and_eq_true, Bool.and_eq_true, decide_eq_true_eq]
theorem qGh_eq {V : Nat → Nat → Nat} {S : Nat → Nat} (U : Nat → Nat → Nat) (h : rV V S) (hs : sI S) (hg : gI S) (h7 : S 0 ≤ 7) (v u a : Int32) : qGh V U v u a = mGhosts S v u a := by
  have hk := kTwo_iff h v u
  unfold qGh mGhosts
  by_cases hc : hasN (S 0) v = true ∧ hasN (S 0) u = true ∧ v ≠ u ∧ inN 0 60 a = true
  · rw [if_pos hc, if_pos ⟨hk.mpr ⟨hc.1, hc.2.1, hc.2.2.1⟩, hc.2.2.2⟩]
    obtain ⟨hv, hu, hne, ha⟩ := hc
    obtain ⟨i, hi, rfl⟩ := hasN_of (by omega) hv
    obtain ⟨j, hj, rfl⟩ := hasN_of (by omega) hu
    obtain ⟨k, -, hk60, rfl⟩ := inN_of (by decide) ha
    have hij : i ≠ j := fun z => hne (by rw [z])
    rw [ix_nI (by omega), ix_nI (by omega), ix_nI (by omega), (h.2.1 i (by omega)).1, (h.2.1 j (by omega)).1]
    by_cases hz : S (5 + 4 * i + 0) = 2 ∨ S (5 + 4 * j + 0) = 2
    · rw [if_pos hz, if_pos hz]
    · rw [if_neg hz, if_neg hz]
      have hcp := rV_cp U h
      have key : rV (if k = 0 then kCp U V else (kPass (kCp U V) k).1) (mTickI S k).1 ∧ sI (mTickI S k).1 := by
        rcases k with _ | k
        · exact ⟨hcp, hs⟩
        · rw [if_neg (by omega)]
          have q := sim_pass hcp hs hg h7 k
          exact ⟨q.1, q.2.1⟩
      have e0 := (mTickI_t h7 k).2
      have e3 : (mTickI S k).1 3 = S 3 := mTickI_lo h7 (by decide) (by decide) k
      obtain ⟨q1, q2, q3⟩ := sim_tk key.1 key.2 (by rw [e0]; exact h7) (by rw [e0]; exact hi) (by rw [e0]; exact hj) hij
      have e9 := q1.1.2.2.2.2
      unfold qGU
      rw [e9, h.1.2.2.2.2, e3]
      exact pk_sub (by have := mMeet_3 (mTickI S k).1 (o := i) (p := j) (by omega) (by omega); omega)
  · rw [if_neg hc, if_neg (fun z => hc ⟨(hk.mp z.1).1, (hk.mp z.1).2.1, (hk.mp z.1).2.2, z.2⟩)]
/-- the same entries -/
def eqE (V : Nat → Nat → Nat) (u v : Nat) : Prop := ∀ t, t < 12 → V 5 (u * 12 + t) = V 5 (v * 12 + t)
/-- those who are awake below a number have the same entries -/
def allE (V : Nat → Nat → Nat) (n : Nat) : Prop := ∀ u v, u < n → v < n → V 1 u = 0 → V 1 v = 0 → eqE V u v
theorem bits_z {p : Nat → Bool} {n : Nat} : bits p n = 0 ↔ ∀ i, i < n → p i = false := by
  refine ⟨fun h i hi => ?_, fun h => bits_0 n h⟩
  have hb := bits_tb p n i
  rw [h, Nat.zero_testBit, decide_eq_true hi, Bool.true_and] at hb
  exact hb.symm
theorem kAlF_i (V : Nat → Nat → Nat) : ∀ n, ((kAlF V n).2 = 0 → ∀ u, u < n → V 1 u ≠ 0) ∧ (∀ l, (kAlF V n).2 = l + 1 → l < n ∧ V 1 l = 0) ∧ ((kAlF V n).1 = true ↔ allE V n)
  | 0 => ⟨fun _ u hu => absurd hu (Nat.not_lt_zero u), fun l hl => absurd hl (Nat.succ_ne_zero l).symm, ⟨fun _ u v hu => absurd hu (Nat.not_lt_zero u), fun _ => rfl⟩⟩
  | n + 1 => by
    obtain ⟨h1, h2, h3⟩ := kAlF_i V n
    rw [kAlF_s]
    by_cases hz : V 1 n = 0
    · rw [if_pos hz]
      dsimp only
      refine ⟨fun z => by omega, fun l hl => ⟨by omega, by rw [show l = n by omega]; exact hz⟩, ?_⟩
      rw [Bool.and_eq_true, h3, Bool.or_eq_true, decide_eq_true_eq, decide_eq_true_eq]
      rcases hL : (kAlF V n).2 with _ | l
      · have hn := h1 hL
        refine ⟨fun _ u v hu hv a b => ?_, fun ha => ⟨fun u v hu hv a b => absurd a (hn u hu), Or.inl rfl⟩⟩
        have e1 : u = n := by
          rcases Nat.lt_or_ge u n with h | h
          · exact absurd a (hn u h)
          · omega
        have e2 : v = n := by
          rcases Nat.lt_or_ge v n with h | h
          · exact absurd b (hn v h)
          · omega
        rw [e1, e2]
        exact fun t _ => rfl
      · obtain ⟨hl, hl0⟩ := h2 l hL
        rw [Nat.add_sub_cancel, bits_z]
        have eqv : (∀ i, i < 12 → (!(decide (V 5 (l * 12 + i) = V 5 (n * 12 + i)))) = false) ↔ eqE V l n := by
          refine ⟨fun z t ht => ?_, fun z t ht => ?_⟩
          · have := z t ht
            rw [Bool.not_eq_false', decide_eq_true_eq] at this
            exact this
          · rw [decide_eq_true (z t ht)]; rfl
        rw [eqv]
        refine ⟨fun z => ?_, fun ha => ⟨fun u v hu hv a b => ha u v (by omega) (by omega) a b, Or.inr (ha l n (by omega) (by omega) hl0 hz)⟩⟩
        have hln : eqE V l n := by
          rcases z.2 with z2 | z2
          · omega
          · exact z2
        have hz1 := z.1
        have to : ∀ u, u < n + 1 → V 1 u = 0 → eqE V l u := fun u hu a => by
          rcases Nat.lt_or_ge u n with h | h
          · exact hz1 l u hl h hl0 a
          · rw [show u = n by omega]; exact hln
        intro u v hu hv a b t ht
        rw [← to u hu a t ht, ← to v hv b t ht]
    · rw [if_neg hz]
      refine ⟨fun z u hu => ?_, fun l hl => ?_, ?_⟩
      · rcases Nat.lt_or_ge u n with h | h
        · exact h1 z u h
        · rw [show u = n by omega]; exact hz
      · have := h2 l hl
        exact ⟨by omega, this.2⟩
      · rw [h3]
        refine ⟨fun ha u v hu hv a b => ?_, fun ha u v hu hv a b => ha u v (by omega) (by omega) a b⟩
        have e1 : u < n := by
          rcases Nat.lt_or_ge u n with h | h
          · exact h
          · exact absurd (by rw [← show u = n by omega]; exact a) hz
        have e2 : v < n := by
          rcases Nat.lt_or_ge v n with h | h
          · exact h
          · exact absurd (by rw [← show v = n by omega]; exact b) hz
        exact ha u v e1 e2 a b
/-- the next one who is awake -/
theorem mNx_i (S : Nat → Nat) : ∀ d k, S 0 - k ≤ d → (∀ u, k ≤ u → u < mNx S k → u < S 0 ∧ S (5 + 4 * u + 0) ≠ 0) ∧ (mNx S k < S 0 → S (5 + 4 * mNx S k + 0) = 0)
  | 0, k, hd => by
    rw [mNx_e (show ¬ (k < S 0 ∧ S (5 + 4 * k + 0) ≠ 0) by omega)]
    exact ⟨fun u a b => by omega, fun z => by omega⟩
  | d + 1, k, hd => by
    by_cases hc : k < S 0 ∧ S (5 + 4 * k + 0) ≠ 0
    · obtain ⟨i1, i2⟩ := mNx_i S d (k + 1) (by omega)
      rw [mNx_s hc.1 hc.2] at i1 i2
      refine ⟨fun u a b => ?_, i2⟩
      by_cases hu : u = k
      · subst hu; exact hc
      · exact i1 u (by omega) b
    · rw [mNx_e hc]
      refine ⟨fun u a b => by omega, fun z => ?_⟩
      by_cases h0 : S (5 + 4 * k + 0) = 0
      · exact h0
      · exact absurd ⟨z, h0⟩ hc
theorem mNx_is {S : Nat → Nat} {k m : Nat} (hkm : k ≤ m) (h1 : ∀ u, k ≤ u → u < m → u < S 0 ∧ S (5 + 4 * u + 0) ≠ 0) (h2 : ¬ (m < S 0 ∧ S (5 + 4 * m + 0) ≠ 0)) : mNx S k = m := by
  obtain ⟨i1, i2⟩ := mNx_i S (S 0 - k) k (Nat.le_refl _)
  rcases Nat.lt_trichotomy (mNx S k) m with h | h | h
  · have a := h1 (mNx S k) (mNx_ge S k) h
    exact absurd (i2 a.1) a.2
  · exact h
  · exact absurd (i1 m hkm h) h2
theorem allT_iff {S : Nat → Nat} (a b : Nat) : ∀ n, allT S a b n = true ↔ ∀ t, t < n → mSame S a b t = true
  | 0 => ⟨fun _ t ht => by omega, fun _ => rfl⟩
  | n + 1 => by
    show (allT S a b n && mSame S a b n) = true ↔ _
    rw [Bool.and_eq_true, allT_iff a b n]
    refine ⟨fun z t ht => ?_, fun z => ⟨fun t ht => z t (by omega), z n (by omega)⟩⟩
    by_cases h : t = n
    · subst h; exact z.2
    · exact z.1 t (by omega)
theorem allT_eq {V : Nat → Nat → Nat} {S : Nat → Nat} (h : rV V S) {a b : Nat} (ha : a < 7) (hb : b < 7) : allT S a b 12 = true ↔ eqE V a b := by
  rw [allT_iff]
  refine ⟨fun z t ht => ?_, fun z t ht => ?_⟩
  · have := z t ht
    rw [mSame_eq (h.2.2.1 a t ha ht) (h.2.2.1 b t hb ht), decide_eq_true_eq] at this
    exact this
  · rw [mSame_eq (h.2.2.1 a t ha ht) (h.2.2.1 b t hb ht), decide_eq_true_eq]
    exact z t ht
theorem mAllF_i {V : Nat → Nat → Nat} {S : Nat → Nat} (h : rV V S) (h7 : S 0 ≤ 7) {a : Nat} (ha : a < 7) : ∀ f k is, S 0 + 1 - mNx S k ≤ f → (mAllF S a f (mNx S k) is = true ↔ (is = true ∧ ∀ u, k ≤ u → u < S 0 → S (5 + 4 * u + 0) = 0 → eqE V a u))
  | 0, k, is, hf => by
    obtain ⟨i1, i2⟩ := mNx_i S (S 0 - k) k (Nat.le_refl _)
    show is = true ↔ _
    refine ⟨fun z => ⟨z, fun u a b c => ?_⟩, fun z => z.1⟩
    exact absurd c (i1 u a (by omega)).2
  | f + 1, k, is, hf => by
    obtain ⟨i1, i2⟩ := mNx_i S (S 0 - k) k (Nat.le_refl _)
    have hge := mNx_ge S k
    show (if mNx S k < S 0 then mAllF S a f (mNx S (mNx S k + 1)) (is && allT S a (mNx S k) 12) else is) = true ↔ _
    by_cases hl : mNx S k < S 0
    · have hge2 := mNx_ge S (mNx S k + 1)
      rw [if_pos hl, mAllF_i h h7 ha f (mNx S k + 1) _ (by omega), Bool.and_eq_true, allT_eq h ha (by omega)]
      refine ⟨fun z => ⟨z.1.1, fun u p q r => ?_⟩, fun z => ⟨⟨z.1, z.2 _ hge hl (i2 hl)⟩, fun u p q r => z.2 u (by omega) q r⟩⟩
      rcases Nat.lt_trichotomy u (mNx S k) with e | e | e
      · exact absurd r (i1 u p e).2
      · rw [e]; exact z.1.2
      · exact z.2 u (by omega) q r
    · rw [if_neg hl]
      refine ⟨fun z => ⟨z, fun u p q r => ?_⟩, fun z => z.1⟩
      exact absurd r (i1 u p (by omega)).2
theorem kAl_eq {V : Nat → Nat → Nat} {S : Nat → Nat} (h : rV V S) (h7 : S 0 ≤ 7) : kAl V = mAll S := by
  have hA : kAl V = true ↔ allE V (S 0) := by
    unfold kAl
    rw [(kAlF_i V (V 0 0)).2.2, h.1.1]
  have hB : mAll S = true ↔ allE V (S 0) := by
    obtain ⟨i1, i2⟩ := mNx_i S (S 0 - 0) 0 (Nat.le_refl _)
    unfold mAll
    by_cases hl : mNx S 0 < S 0
    · have hge2 := mNx_ge S (mNx S 0 + 1)
      rw [mAllF_i h h7 (by omega) _ _ _ (by omega)]
      refine ⟨fun z => ?_, fun z => ⟨rfl, fun u p q r => z _ u hl q (by rw [(h.2.1 _ (by omega)).1]; exact i2 hl) (by rw [(h.2.1 u (by omega)).1]; exact r)⟩⟩
      have to : ∀ u, u < S 0 → V 1 u = 0 → eqE V (mNx S 0) u := fun u hu a => by
        rw [(h.2.1 u (by omega)).1] at a
        rcases Nat.lt_trichotomy u (mNx S 0) with e | e | e
        · exact absurd a (i1 u (Nat.zero_le _) e).2
        · rw [e]; exact fun t _ => rfl
        · exact z.2 u (by omega) hu a
      intro u v hu hv a b t ht
      rw [← to u hu a t ht, ← to v hv b t ht]
    · have hge2 := mNx_ge S (mNx S 0 + 1)
      have e : mAllF S (mNx S 0) (S 0 + 1) (mNx S (mNx S 0 + 1)) true = true := by
        show (if mNx S (mNx S 0 + 1) < S 0 then _ else true) = true
        rw [if_neg (by omega)]
      rw [e]
      refine ⟨fun _ u v hu hv a b => ?_, fun _ => rfl⟩
      rw [(h.2.1 u (by omega)).1] at a
      exact absurd a (i1 u (Nat.zero_le _) (by omega)).2
  by_cases hx : kAl V = true
  · rw [hx, hB.mpr (hA.mp hx)]
  · have hy : ¬ mAll S = true := fun z => hx (hA.mpr (hB.mp z))
    rw [Bool.eq_false_iff.mpr hx, Bool.eq_false_iff.mpr hy]
