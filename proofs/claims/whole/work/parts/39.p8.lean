theorem sI_g {V : Nat → Nat → Nat} {S : Nat → Nat} {f p t : Nat} (h : rV V S) (hs : sI S) (h7 : S 0 ≤ 7) (hp : p < S 0) : sI (gS S f p t) := by
  have e : ∀ j, j ≠ 3 → j ≠ 5 + 4 * p + 2 → gS S f p t j = S j := fun j a b => gS_n S a b
  refine sI_num hs (fun u k a b c => ?_) (fun u hu => ?_) (rV_au h) (fun u hu hq => ?_) (fun j hj => e j (by omega) (by omega))
  · rw [e 0 (by omega) (by omega)] at a
    rw [e _ (by omega) (by omega)]
    exact hs.1 u k a b c
  · rw [e _ (by omega) (by omega)]; exact Nat.le_refl _
  · rw [e _ (by omega) (by omega)] at hq
    rw [e _ (by omega) (by omega), e 1 (by omega) (by omega)]
    exact hs.2.2.1 u hu hq
theorem sI_cp {S : Nat → Nat} {f p t : Nat} (hs : sI S) (hf : f < 7) (hp7 : p < 7) (ht7 : t < 12) (ha : ∀ v t, v < 7 → t < 12 → S (225 + 84 * v + 7 * t + 0) ≠ 0 → S (225 + 84 * v + 7 * t + 2) < 7) : sI (cpE S f p t 7) := by
  have key : ∀ u t', u < 7 → t' < 12 → ∃ u', u' < 7 ∧ ∀ k, k < 7 → cpE S f p t 7 (225 + 84 * u + 7 * t' + k) = S (225 + 84 * u' + 7 * t' + k) := by
    intro u t' hu ht'
    by_cases hut : u = p ∧ t' = t
    · obtain ⟨rfl, rfl⟩ := hut
      exact ⟨f, hf, fun k hk => cpE_in S hk⟩
    · refine ⟨u, hu, fun k hk => ?_⟩
      by_cases hp : 225 + 84 * p + 7 * t ≤ 225 + 84 * u + 7 * t' + k ∧ 225 + 84 * u + 7 * t' + k < 225 + 84 * p + 7 * t + 7
      · unfold cpE
        rw [if_pos hp]
        exfalso
        omega
      · exact if_neg hp
  have lo : ∀ j, j < 225 → cpE S f p t 7 j = S j := fun j hj => cpE_out S (Or.inl (by omega))
  refine ⟨fun u k a b c => ?_, fun u t' hu ht' hq => ?_, fun u hu hq => ?_, fun u w t' hu hw ht' hq hq2 e3 e4 => ?_⟩
  · rw [lo 0 (by decide)] at a
    rw [lo _ (by omega)]
    exact hs.1 u k a b c
  · obtain ⟨u', hu', hk⟩ := key u t' hu ht'
    rw [hk 0 (by decide)] at hq
    rw [hk 1 (by decide), hk 2 (by decide), lo _ (by have := ha u' t' hu' ht' hq; omega)]
    exact hs.2.1 u' t' hu' ht' hq
  · rw [lo _ (by omega)] at hq
    rw [lo _ (by omega), lo 1 (by decide)]
    exact hs.2.2.1 u hu hq
  · obtain ⟨u', hu', hk⟩ := key u t' hu ht'
    obtain ⟨w', hw', hk2⟩ := key w t' hw ht'
    rw [hk 0 (by decide)] at hq ⊢
    rw [hk2 0 (by decide)] at hq2 ⊢
    rw [hk 1 (by decide), hk2 1 (by decide)] at e3
    rw [hk 2 (by decide), hk2 2 (by decide)] at e4
    exact hs.2.2.2 u' w' t' hu' hw' ht' hq hq2 e3 e4
theorem mSee_n (S : Nat → Nat) {o p t u t' k : Nat} (ht : t < 12) (ht' : t' < 12) (hk : k < 6) : mSee S o p t (225 + 84 * u + 7 * t' + k) = S (225 + 84 * u + 7 * t' + k) := by
  unfold mSee
  split
  · rw [upN_n _ _ (by omega), upN_n _ _ (by omega)]
  · rfl
theorem sI_see {S : Nat → Nat} {o p t : Nat} (hs : sI S) (ht : t < 12) (ha : ∀ v t, v < 7 → t < 12 → S (225 + 84 * v + 7 * t + 0) ≠ 0 → S (225 + 84 * v + 7 * t + 2) < 7) : sI (mSee S o p t) := by
  have lo : ∀ j, j < 225 → mSee S o p t j = S j := fun j hj => mSee_lo S hj
  refine ⟨fun u k a b c => ?_, fun u t' hu ht' hq => ?_, fun u hu hq => ?_, fun u w t' hu hw ht' hq hq2 e3 e4 => ?_⟩
  · rw [lo 0 (by decide)] at a
    rw [lo _ (by omega)]
    exact hs.1 u k a b c
  · rw [mSee_n S ht ht' (by decide)] at hq
    rw [mSee_n S ht ht' (by decide), mSee_n S ht ht' (by decide), lo _ (by have := ha u t' hu ht' hq; omega)]
    exact hs.2.1 u t' hu ht' hq
  · rw [lo _ (by omega)] at hq
    rw [lo _ (by omega), lo 1 (by decide)]
    exact hs.2.2.1 u hu hq
  · rw [mSee_n S ht ht' (by decide)] at hq ⊢
    rw [mSee_n S ht ht' (by decide)] at hq2 ⊢
    rw [mSee_n S ht ht' (by decide), mSee_n S ht ht' (by decide)] at e3
    rw [mSee_n S ht ht' (by decide), mSee_n S ht ht' (by decide)] at e4
    exact hs.2.2.2 u w t' hu hw ht' hq hq2 e3 e4
theorem see_iff {V : Nat → Nat → Nat} {S : Nat → Nat} {o p t : Nat} (h : rV V S) (hs : sI S) (ho : o < 7) (hp : p < 7) (ht : t < 12) : (S (225 + 84 * o + 7 * t + 0) = 2 ∧ S (225 + 84 * p + 7 * t + 0) = 2 ∧ mSame S o p t = true) ↔ (kTmb V (o * 12 + t) = true ∧ V 5 (o * 12 + t) = V 5 (p * 12 + t)) := by
  have h1 := h.2.2.1 o t ho ht
  have h2 := h.2.2.1 p t hp ht
  rw [mSame_eq h1 h2, rE_tmb h1, decide_eq_true_eq, decide_eq_true_eq]
  refine ⟨fun z => ⟨z.1, z.2.2⟩, fun z => ⟨z.1, ?_, z.2⟩⟩
  have hu := hs.2.2.2 p o t hp ho ht
  rcases h1 with h1 | h1 | h1
  · omega
  · omega
  · rcases h2 with h2 | h2 | h2
    · omega
    · have := hu (by omega) (by omega) (by omega) (by omega)
      omega
    · exact h2.1
theorem rV_see {V : Nat → Nat → Nat} {S : Nat → Nat} {o p t : Nat} (h : rV V S) (hs : sI S) (ho : o < 7) (hp : p < 7) (ht : t < 12) : rV (kSh V o p t) (mSee S o p t) := by
  have hiff := see_iff h hs ho hp ht
  unfold kSh mSee
  by_cases hc : kTmb V (o * 12 + t) = true ∧ V 5 (o * 12 + t) = V 5 (p * 12 + t)
  · have hc2 := hiff.mpr hc
    rw [if_pos hc, if_pos hc2]
    have h1 := h.2.2.1 o t ho ht
    have h2 := h.2.2.1 p t hp ht
    have eb : kBoth V o p t = mSeen S o p t := by
      unfold kBoth mSeen
      rcases h1 with h1 | h1 | h1
      · omega
      · omega
      · rcases h2 with h2 | h2 | h2
        · omega
        · omega
        · rw [h1.2.2.2.2.2.2, h2.2.2.2.2.2.2]
    rw [eb]
    have lo : ∀ j, j < 225 → upN (upN S (225 + 84 * o + 7 * t + 6) (mSeen S o p t)) (225 + 84 * p + 7 * t + 6) (mSeen S o p t) j = S j := fun j hj => by rw [upN_n _ _ (by omega), upN_n _ _ (by omega)]
    refine ⟨?_, fun u hu => ?_, fun u t' hu ht' => ?_, fun u t' hu ht' => ?_, fun t' ht' => ?_⟩
    · rw [lo 0 (by decide), lo 1 (by decide), lo 2 (by decide), lo 3 (by decide), lo 4 (by decide)]
      exact h.1
    · rw [lo _ (by omega), lo _ (by omega), lo _ (by omega), lo _ (by omega)]
      exact h.2.1 u hu
    · have h3 := h.2.2.1 u t' hu ht'
      have hk : ∀ k, k < 6 → upN (upN S (225 + 84 * o + 7 * t + 6) (mSeen S o p t)) (225 + 84 * p + 7 * t + 6) (mSeen S o p t) (225 + 84 * u + 7 * t' + k) = S (225 + 84 * u + 7 * t' + k) := fun k hk => by rw [upN_n _ _ (by omega), upN_n _ _ (by omega)]
      by_cases hut : (u = o ∨ u = p) ∧ t' = t
      · obtain ⟨huo, rfl⟩ := hut
        have hty : S (225 + 84 * u + 7 * t' + 0) = 2 := by
          rcases huo with rfl | rfl
          · exact hc2.1
          · exact hc2.2.1
        rcases h3 with h3 | h3 | h3
        · omega
        · omega
        · obtain ⟨q1, q2, q3, q4, q5, q6, q7⟩ := h3
          refine Or.inr (Or.inr ⟨?_, ?_, ?_, ?_, q5, ?_, ?_⟩)
          · rw [hk 0 (by decide)]; exact q1
          · rw [hk 1 (by decide), hk 2 (by decide)]; exact q2
          · rw [hk 1 (by decide)]; exact q3
          · rw [hk 2 (by decide)]; exact q4
          · rw [hk 5 (by decide)]; exact q6
          · show upN (upN (V 9) (o * 12 + t') (mSeen S o p t')) (p * 12 + t') (mSeen S o p t') (u * 12 + t') = _
            simp only [upN_at]
            rcases huo with rfl | rfl
            · by_cases hup : u = p
              · subst hup
                rw [if_pos rfl, if_pos rfl]
              · rw [if_neg (by omega), if_pos rfl, if_neg (by omega), if_pos rfl]
            · rw [if_pos rfl, if_pos rfl]
      · refine rE_c h3 (fun k a b => ?_) (fun k hk7 => ?_)
        · simp only [vU_at]
          by_cases h9 : k = 9
          · subst h9
            rw [if_pos rfl, if_neg (by omega), if_pos rfl, if_neg (by omega)]
          · rw [if_neg h9, if_neg h9]
        · rw [upN_n _ _ (by omega), upN_n _ _ (by omega)]
    · rw [lo _ (by omega), lo _ (by omega)]
      exact h.2.2.2.1 u t' hu ht'
    · rw [lo _ (by omega), lo _ (by omega)]
      exact h.2.2.2.2 t' ht'
  · rw [if_neg hc, if_neg (fun z => hc (hiff.mp z))]
    exact h

