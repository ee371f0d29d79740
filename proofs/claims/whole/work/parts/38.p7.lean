/-- an entry is given: the ghosts counted first -/
def gS (S : Nat → Nat) (f p t : Nat) : Nat → Nat := if mGho S f p t = true then mGh S p else S
theorem cpE_in (S : Nat → Nat) {f p t k : Nat} (hk : k < 7) : cpE S f p t 7 (225 + 84 * p + 7 * t + k) = S (225 + 84 * f + 7 * t + k) := by
  unfold cpE
  rw [if_pos (by omega), show 225 + 84 * f + 7 * t + (225 + 84 * p + 7 * t + k - (225 + 84 * p + 7 * t)) = 225 + 84 * f + 7 * t + k by omega]
theorem cpE_out (S : Nat → Nat) {f p t j : Nat} (h : j < 225 + 84 * p + 7 * t ∨ 225 + 84 * p + 7 * t + 7 ≤ j) : cpE S f p t 7 j = S j := if_neg (by omega)
theorem gS_n (S : Nat → Nat) {f p t j : Nat} (h3 : j ≠ 3) (h : j ≠ 5 + 4 * p + 2) : gS S f p t j = S j := by
  unfold gS
  split
  · unfold mGh
    rw [upN_n _ _ h3, upN_n _ _ h]
  · rfl
theorem mGho_eq {V : Nat → Nat → Nat} {S : Nat → Nat} {f p t : Nat} (h : rV V S) (hf : f < 7) (hp : p < 7) (ht : t < 12) : mGho S f p t = (kRum V (f * 12 + t) && decide (V 5 (f * 12 + t) < V 10 (p * 12 + t))) := by
  have h1 := h.2.2.1 f t hf ht
  have h2 := h.2.2.2.1 p t hp ht
  rw [rE_rum h1, h2.1]
  unfold mGho
  by_cases hz : S (225 + 84 * f + 7 * t + 0) = 1
  · rw [decide_eq_true hz, Bool.true_and]
    rcases h1 with h1 | h1 | h1
    · omega
    · rw [newer_lt (by omega) (by omega), h1.2.1]
      by_cases hA : 8 * S (225 + 84 * f + 7 * t + 1) + S (225 + 84 * f + 7 * t + 2) < 8 * S (57 + 24 * p + 2 * t) + S (57 + 24 * p + 2 * t + 1)
      · rw [decide_eq_true hA]; exact decide_eq_true ⟨hz, rfl⟩
      · rw [decide_eq_false hA]; exact decide_eq_false (fun z => by cases z.2)
    · omega
  · rw [decide_eq_false hz, Bool.false_and, decide_eq_false (fun z => hz z.1)]
theorem rV_g {V : Nat → Nat → Nat} {S : Nat → Nat} {f p t : Nat} (h : rV V S) (h7 : S 0 ≤ 7) (hf : f < 7) (hp : p < S 0) (ht : t < 12) : rV (kH1 V t f p) (gS S f p t) := by
  unfold kH1 gS
  rw [mGho_eq h hf (by omega) ht]
  by_cases hc : kRum V (f * 12 + t) = true ∧ V 5 (f * 12 + t) < V 10 (p * 12 + t)
  · rw [if_pos hc, if_pos (by rw [hc.1, decide_eq_true hc.2]; rfl)]
    unfold mGh
    obtain ⟨b0, b1, b2, b3, b4⟩ := h.1
    refine rV_num h ⟨?_, ?_, ?_, ?_, ?_⟩ (fun u hu => ?_) (fun k a b => ?_) (fun j hj => ?_)
    · (simp only [upN_at, vU_at]; repeat first | rw [if_pos trivial] | rw [if_pos (by omega)] | rw [if_neg (by omega)]); assumption
    · (simp only [upN_at, vU_at]; repeat first | rw [if_pos trivial] | rw [if_pos (by omega)] | rw [if_neg (by omega)]); assumption
    · (simp only [upN_at, vU_at]; repeat first | rw [if_pos trivial] | rw [if_pos (by omega)] | rw [if_neg (by omega)]); assumption
    · (simp only [upN_at, vU_at]; repeat first | rw [if_pos trivial] | rw [if_pos (by omega)] | rw [if_neg (by omega)]); assumption
    · show sm (upN (V 4) p (V 4 p + 1)) (V 0 0) = _
      rw [sm_up, b4, b0, if_pos hp, upN_s, upN_n _ _ (by omega)]
    · obtain ⟨a1, a2, a3, a4⟩ := h.2.1 u hu
      by_cases hup : u = p
      · subst hup
        refine ⟨?_, ?_, ?_, ?_⟩ <;> (simp only [upN_at, vU_at]; repeat first | rw [if_pos trivial] | rw [if_pos (by omega)] | rw [if_neg (by omega)]) <;> first | assumption | (rw [a3])
      · refine ⟨?_, ?_, ?_, ?_⟩ <;> (simp only [upN_at, vU_at]; repeat first | rw [if_pos trivial] | rw [if_pos (by omega)] | rw [if_neg (by omega)]) <;> assumption
    · rw [vU_n _ _ _ (by omega)]
    · rw [upN_n _ _ (by omega), upN_n _ _ (by omega)]
  · rw [if_neg hc, if_neg (by
      intro z
      rw [Bool.and_eq_true, decide_eq_true_eq] at z
      exact hc z)]
    exact h
theorem rV_hn {V : Nat → Nat → Nat} {S : Nat → Nat} {f p t : Nat} (h : rV V S) (h7 : S 0 ≤ 7) (hf : f < 7) (hp : p < S 0) (ht : t < 12) : rV (kHn V t f p) (cpE (gS S f p t) f p t 7) := by
  have hg := rV_g (f := f) (t := t) h h7 hf hp ht
  unfold kHn
  refine ⟨?_, fun u hu => ?_, fun u t' hu ht' => ?_, fun u t' hu ht' => ?_, fun t' ht' => ?_⟩
  · rw [cpE_out _ (by omega), cpE_out _ (by omega), cpE_out _ (by omega), cpE_out _ (by omega), cpE_out _ (by omega)]
    exact hg.1
  · rw [cpE_out _ (by omega), cpE_out _ (by omega), cpE_out _ (by omega), cpE_out _ (by omega)]
    exact hg.2.1 u hu
  · by_cases hut : u = p ∧ t' = t
    · obtain ⟨rfl, rfl⟩ := hut
      have h1 := hg.2.2.1 f t' hf ht
      unfold rE at h1 ⊢
      rw [cpE_in _ (by decide), cpE_in _ (by decide), cpE_in _ (by decide), cpE_in _ (by decide), cpE_in _ (by decide), cpE_in _ (by decide), cpE_in _ (by decide)]
      rw [show kH2 (kH1 V t' f u) (f * 12 + t') (u * 12 + t') 5 (u * 12 + t') = upN (kH1 V t' f u 5) (u * 12 + t') (kH1 V t' f u 5 (f * 12 + t')) (u * 12 + t') from rfl, show kH2 (kH1 V t' f u) (f * 12 + t') (u * 12 + t') 6 (u * 12 + t') = upN (kH1 V t' f u 6) (u * 12 + t') (kH1 V t' f u 6 (f * 12 + t')) (u * 12 + t') from rfl, show kH2 (kH1 V t' f u) (f * 12 + t') (u * 12 + t') 7 (u * 12 + t') = upN (kH1 V t' f u 7) (u * 12 + t') (kH1 V t' f u 7 (f * 12 + t')) (u * 12 + t') from rfl, show kH2 (kH1 V t' f u) (f * 12 + t') (u * 12 + t') 8 (u * 12 + t') = upN (kH1 V t' f u 8) (u * 12 + t') (kH1 V t' f u 8 (f * 12 + t')) (u * 12 + t') from rfl, show kH2 (kH1 V t' f u) (f * 12 + t') (u * 12 + t') 9 (u * 12 + t') = upN (kH1 V t' f u 9) (u * 12 + t') (kH1 V t' f u 9 (f * 12 + t')) (u * 12 + t') from rfl]
      rw [upN_s, upN_s, upN_s, upN_s, upN_s]
      exact h1
    · refine rE_c (hg.2.2.1 u t' hu ht') (fun k a b => ?_) (fun k hk => cpE_out _ (by omega))
      have hq : u * 12 + t' ≠ p * 12 + t := by omega
      unfold kH2
      simp only [vU_at, if_neg hq, ite_self]
  · rw [cpE_out _ (by omega), cpE_out _ (by omega)]
    exact hg.2.2.2.1 u t' hu ht'
  · rw [cpE_out _ (by omega), cpE_out _ (by omega)]
    exact hg.2.2.2.2 t' ht'

