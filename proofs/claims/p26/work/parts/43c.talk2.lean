/-! a meeting as a whole -/
def Fin (V V' : Nat → Nat → Nat) (a b s : Nat) : Prop :=
  (kGv V a b s = 0 ∧ V' 5 (a * 12 + s) = V 5 (a * 12 + s) ∧ V' 5 (b * 12 + s) = V 5 (b * 12 + s) ∧ V' 6 (a * 12 + s) = V 6 (a * 12 + s) ∧ V' 6 (b * 12 + s) = V 6 (b * 12 + s)) ∨
  (kGv V a b s ≠ 0 ∧ V 5 (a * 12 + s) ≠ V 5 (b * 12 + s) ∧ V' 5 (a * 12 + s) = V' 5 (b * 12 + s) ∧ V 5 (a * 12 + s) ≤ V' 5 (a * 12 + s) ∧ V 5 (b * 12 + s) ≤ V' 5 (a * 12 + s) ∧ (V' 5 (a * 12 + s) = V 5 (a * 12 + s) ∨ V' 5 (a * 12 + s) = V 5 (b * 12 + s)))
theorem Gv_eq {V V' : Nat → Nat → Nat} {a b s : Nat} (h1 : V' 5 (a * 12 + s) = V 5 (a * 12 + s)) (h2 : V' 5 (b * 12 + s) = V 5 (b * 12 + s)) (h3 : V' 6 (a * 12 + s) = V 6 (a * 12 + s)) (h4 : V' 6 (b * 12 + s) = V 6 (b * 12 + s)) : kGv V' a b s = kGv V a b s := by
  unfold kGv kHand
  rw [h1, h2, h3, h4]
theorem St_n {V : Nat → Nat → Nat} {a b t : Nat} {k : Nat} (h : k < 4 ∨ 10 ≤ k) : kSt V a b t k = V k := by
  unfold kSt
  rw [Sh_n _ _ _ _ (by omega)]
  split
  · rfl
  · rw [Hn_n _ _ _ _ h]
theorem St_k {V : Nat → Nat → Nat} {a b t : Nat} {k j : Nat} (h : 5 ≤ k ∧ k ≤ 8) (h1 : j ≠ a * 12 + t) (h2 : j ≠ b * 12 + t) : kSt V a b t k j = V k j := by
  unfold kSt
  rw [Sh_n _ _ _ _ (by omega)]
  split
  · rfl
  · rw [Hn_k _ _ _ _ (by omega)]
    refine upN_n _ _ ?_
    split <;> assumption
theorem St_fin {V : Nat → Nat → Nat} {a b t : Nat} (hne : a ≠ b) : Fin V (kSt V a b t) a b t := by
  have hAB : a * 12 + t ≠ b * 12 + t := by omega
  rcases hG : kGv V a b t with _ | f
  · rw [St_0 hG]
    exact Or.inl ⟨hG, by rw [Sh_n _ _ _ _ (by decide)], by rw [Sh_n _ _ _ _ (by decide)], by rw [Sh_n _ _ _ _ (by decide)], by rw [Sh_n _ _ _ _ (by decide)]⟩
  · rw [St_1 hG]
    rcases Gv_1 hG with ⟨rfl, hl⟩ | ⟨rfl, hl⟩
    · rw [if_pos rfl]
      refine Or.inr ⟨by omega, by omega, ?_⟩
      rw [Sh_n _ _ _ _ (by decide), Hn_k _ _ _ _ (by decide), upN_s, upN_n _ _ hAB]
      exact ⟨rfl, Nat.le_refl _, by omega, Or.inl rfl⟩
    · rw [if_neg (Ne.symm hne)]
      refine Or.inr ⟨by omega, by omega, ?_⟩
      rw [Sh_n _ _ _ _ (by decide), Hn_k _ _ _ _ (by decide), upN_s, upN_n _ _ (Ne.symm hAB)]
      exact ⟨rfl, by omega, Nat.le_refl _, Or.inr rfl⟩
theorem sm_le {f g : Nat → Nat} : ∀ n, (∀ i, i < n → f i ≤ g i) → sm f n ≤ sm g n
  | 0, _ => Nat.le_refl _
  | n + 1, h => by
    have := sm_le n (fun i hi => h i (by omega))
    have := h n (by omega)
    show sm f n + f n ≤ sm g n + g n
    omega
theorem sm_up (f : Nat → Nat) (p x : Nat) (hx : f p ≤ x ∧ x ≤ f p + 1) : ∀ n, sm f n ≤ sm (upN f p x) n ∧ sm (upN f p x) n ≤ sm f n + 1 ∧ (n ≤ p → sm (upN f p x) n = sm f n)
  | 0 => ⟨Nat.le_refl _, Nat.zero_le _, fun _ => rfl⟩
  | n + 1 => by
    obtain ⟨h1, h2, h3⟩ := sm_up f p x hx n
    show sm f n + f n ≤ sm (upN f p x) n + upN f p x n ∧ sm (upN f p x) n + upN f p x n ≤ sm f n + f n + 1 ∧ (n + 1 ≤ p → sm (upN f p x) n + upN f p x n = sm f n + f n)
    by_cases hq : n = p
    · subst hq
      rw [upN_s, h3 (Nat.le_refl _)]
      omega
    · rw [upN_n _ _ hq]
      refine ⟨by omega, by omega, fun z => by rw [h3 (by omega)]⟩
theorem St_gh (V : Nat → Nat → Nat) (a b t n : Nat) : nGh V n ≤ nGh (kSt V a b t) n ∧ nGh (kSt V a b t) n ≤ nGh V n + (if kGv V a b t = 0 then 0 else 1) := by
  unfold nGh
  by_cases hG : kGv V a b t = 0
  · rw [if_pos hG, St_0 hG, Sh_n _ _ _ _ (by decide)]
    exact ⟨Nat.le_refl _, Nat.le_refl _⟩
  · rw [if_neg hG]
    unfold kSt
    rw [Sh_n _ _ _ _ (by decide), if_neg hG]
    rcases Hn_4 V t (kGv V a b t - 1) (if kGv V a b t - 1 = a then b else a) with e | e
    · rw [e]; exact ⟨Nat.le_refl _, by omega⟩
    · rw [e]
      have := sm_up (V 4) (if kGv V a b t - 1 = a then b else a) (V 4 (if kGv V a b t - 1 = a then b else a) + 1) ⟨by omega, Nat.le_refl _⟩ n
      exact ⟨this.1, this.2.1⟩
theorem Fin_c {V V' V'' : Nat → Nat → Nat} {a b s : Nat} (h : Fin V V' a b s) (h1 : V'' 5 (a * 12 + s) = V' 5 (a * 12 + s)) (h2 : V'' 5 (b * 12 + s) = V' 5 (b * 12 + s)) (h3 : V'' 6 (a * 12 + s) = V' 6 (a * 12 + s)) (h4 : V'' 6 (b * 12 + s) = V' 6 (b * 12 + s)) : Fin V V'' a b s := by
  unfold Fin at h ⊢
  rw [h1, h2, h3, h4]
  exact h
theorem T0_n (V : Nat → Nat → Nat) (a b : Nat) {k : Nat} (h : k ≠ 2) : kT0 V a b k = V k := by
  unfold kT0
  rw [vU_n _ _ _ h, vU_n _ _ _ h]
theorem T0_2 (V : Nat → Nat → Nat) (a b j : Nat) : kT0 V a b 2 j = if j = b then mx (V 2 a) (V 2 b) else if j = a then mx (V 2 a) (V 2 b) else V 2 j := by
  unfold kT0
  rw [vUe, vUe]
theorem J_T0 {V : Nat → Nat → Nat} {N G a b : Nat} (h : J V N G) (ha : a < 7) (hb : b < 7) : J (kT0 V a b) N G := by
  have en : ∀ k, k ≠ 2 → kT0 V a b k = V k := fun k z => T0_n V a b z
  have e2 := T0_2 V a b
  generalize kT0 V a b = V' at *
  obtain ⟨h0, h1, h2, h3, h4, h5, h6, h7⟩ := h
  have ca := (h4 a ha).2.1
  have cb := (h4 b hb).2.1
  have hge : ∀ i, i < 7 → V 2 i ≤ V' 2 i ∧ V' 2 i ≤ N := fun i hi => by
    have := (h4 i hi).2.1
    rw [e2]
    unfold mx
    (repeat' split) <;> (try subst i) <;> omega
  rw [J, en 0 (by decide), en 1 (by decide), en 3 (by decide), en 4 (by decide), en 5 (by decide), en 6 (by decide), en 7 (by decide), en 8 (by decide), en 9 (by decide), en 10 (by decide), en 11 (by decide)]
  refine ⟨h0, h1, h2, h3, fun i hi => ?_, fun i s hi hs hq => ?_, h6, h7⟩
  · obtain ⟨a1, a2, a3, a4, a5⟩ := h4 i hi
    exact ⟨a1, (hge i hi).2, a3, a4, a5⟩
  · obtain ⟨b1, b2, b3, b4⟩ := h5 i s hi hs hq
    exact ⟨b1, Nat.le_trans b2 (hge i hi).1, b3, b4⟩
/-- the loop over the topics -/
theorem Tt_spec {V : Nat → Nat → Nat} {N G a b : Nat} (h : J V N G) (ha : a < 7) (hb : b < 7) (hne : a ≠ b) (hsa : V 1 a ≠ 2) (hsb : V 1 b ≠ 2) : ∀ t, t ≤ 12 →
    J (kTt V a b t).1 N (G + t) ∧ (∀ k, (k < 4 ∨ 10 ≤ k) → (kTt V a b t).1 k = kT0 V a b k) ∧ (∀ k s, 5 ≤ k → k ≤ 8 → t ≤ s → s < 12 → (kTt V a b t).1 k (a * 12 + s) = V k (a * 12 + s) ∧ (kTt V a b t).1 k (b * 12 + s) = V k (b * 12 + s)) ∧
    (∀ s, s < t → Fin V (kTt V a b t).1 a b s) ∧ (kTt V a b t).2 = cnt (fun s => decide (kGv V a b s ≠ 0)) t ∧ nGh V (V 0 0) ≤ nGh (kTt V a b t).1 (V 0 0) ∧ nGh (kTt V a b t).1 (V 0 0) ≤ nGh V (V 0 0) + (kTt V a b t).2
  | 0, _ => by
    refine ⟨J_T0 h ha hb, fun _ _ => rfl, fun k s h1 h2 _ _ => ?_, fun s hs => absurd hs (Nat.not_lt_zero s), rfl, ?_, ?_⟩
    · show kT0 V a b k _ = _ ∧ kT0 V a b k _ = _
      rw [T0_n V a b (by omega)]
      exact ⟨rfl, rfl⟩
    · show nGh V _ ≤ sm (kT0 V a b 4) _
      rw [T0_n V a b (by decide)]
      exact Nat.le_refl _
    · show sm (kT0 V a b 4) _ ≤ nGh V _ + 0
      rw [T0_n V a b (by decide)]
      exact Nat.le_refl _
  | t + 1, ht => by
    obtain ⟨i1, i2, i3, i4, i5, i6, i7⟩ := Tt_spec h ha hb hne hsa hsb t (by omega)
    rw [kTt_s]
    dsimp only
    have g5 := i3 5 t (by decide) (by decide) (Nat.le_refl _) (by omega)
    have g6 := i3 6 t (by decide) (by decide) (Nat.le_refl _) (by omega)
    have eG : kGv (kTt V a b t).1 a b t = kGv V a b t := Gv_eq g5.1 g5.2 g6.1 g6.2
    have c2 : (kTt V a b t).1 2 a = (kTt V a b t).1 2 b := by
      rw [i2 2 (by decide), T0_2, T0_2]
      rw [if_pos (show b = b from rfl)]
      by_cases hq : a = b
      · rw [if_pos hq]
      · rw [if_neg hq, if_pos rfl]
    have s1 : (kTt V a b t).1 1 = V 1 := by rw [i2 1 (by decide), T0_n V a b (by decide)]
    have hgh := St_gh (kTt V a b t).1 a b t (V 0 0)
    rw [eG] at hgh
    refine ⟨J_St i1 ha hb (by omega) hne c2 (by rw [s1]; exact hsa) (by rw [s1]; exact hsb), fun k hk => by rw [St_n hk]; exact i2 k hk, fun k s h1 h2 h3 h4 => ?_, fun s hs => ?_, ?_, by omega, ?_⟩
    · rw [St_k ⟨h1, h2⟩ (by omega) (by omega), St_k ⟨h1, h2⟩ (by omega) (by omega)]
      exact i3 k s h1 h2 (by omega) h4
    · by_cases hq : s = t
      · subst hq
        have hf := St_fin (V := (kTt V a b s).1) (t := s) hne
        unfold Fin at hf ⊢
        rw [eG, g5.1, g5.2, g6.1, g6.2] at hf
        exact hf
      · have hf := i4 s (by omega)
        exact Fin_c hf (St_k ⟨by decide, by decide⟩ (by omega) (by omega)) (St_k ⟨by decide, by decide⟩ (by omega) (by omega)) (St_k ⟨by decide, by decide⟩ (by omega) (by omega)) (St_k ⟨by decide, by decide⟩ (by omega) (by omega))
    · rw [eG, i5, cnt_s]
      by_cases hq : kGv V a b t = 0
      · simp [hq]
      · simp [hq]
    · rw [eG]
      omega
/-- what a meeting does -/
theorem Tk_spec {V : Nat → Nat → Nat} {N G a b : Nat} (h : J V N G) (ha : a < 7) (hb : b < 7) (hne : a ≠ b) (hsa : V 1 a ≠ 2) (hsb : V 1 b ≠ 2) :
    J (kTk V a b).1 N (G + 12) ∧ (kTk V a b).1 0 = V 0 ∧ (kTk V a b).1 2 a = mx (V 2 a) (V 2 b) ∧ (kTk V a b).1 2 b = mx (V 2 a) (V 2 b) ∧ (∀ s, s < 12 → Fin V (kTk V a b).1 a b s) ∧ nGh V (V 0 0) ≤ nGh (kTk V a b).1 (V 0 0) ∧ nGh (kTk V a b).1 (V 0 0) ≤ nGh V (V 0 0) + (kTk V a b).2 := by
  obtain ⟨i1, i2, i3, i4, i5, i6, i7⟩ := Tt_spec h ha hb hne hsa hsb 12 (Nat.le_refl _)
  refine ⟨i1, by rw [kTk_0], ?_, ?_, i4, i6, i7⟩
  · unfold kTk
    rw [i2 2 (by decide), T0_2]
    by_cases hq : a = b
    · rw [if_pos hq]
    · rw [if_neg hq, if_pos rfl]
  · unfold kTk
    rw [i2 2 (by decide), T0_2, if_pos rfl]
theorem Fin_m {V V' : Nat → Nat → Nat} {a b s : Nat} (h : Fin V V' a b s) : V 5 (a * 12 + s) ≤ V' 5 (a * 12 + s) ∧ V 5 (b * 12 + s) ≤ V' 5 (b * 12 + s) ∧ V' 5 (a * 12 + s) ≤ mx (V 5 (b * 12 + s)) (V 5 (a * 12 + s)) ∧ V' 5 (b * 12 + s) ≤ mx (V 5 (b * 12 + s)) (V 5 (a * 12 + s)) ∧
    ((V 5 (a * 12 + s) < V' 5 (a * 12 + s) ∨ V 5 (b * 12 + s) < V' 5 (b * 12 + s)) ↔ (V 5 (a * 12 + s) ≠ V 5 (b * 12 + s) ∧ V' 5 (a * 12 + s) = V' 5 (b * 12 + s))) ∧ (V' 5 (a * 12 + s) ≠ V' 5 (b * 12 + s) → V 5 (a * 12 + s) ≠ V 5 (b * 12 + s)) ∧
    (kTmb V' (a * 12 + s) = true → kTmb V' (b * 12 + s) = true → V' 5 (a * 12 + s) = mx (V 5 (b * 12 + s)) (V 5 (a * 12 + s)) ∧ V' 5 (b * 12 + s) = mx (V 5 (b * 12 + s)) (V 5 (a * 12 + s))) := by
  unfold mx
  rcases h with ⟨h1, h2, h3, h4, h5⟩ | ⟨h1, h2, h3, h4, h5, h6⟩
  · rw [h2, h3]
    refine ⟨Nat.le_refl _, Nat.le_refl _, by split <;> omega, by split <;> omega, by omega, fun z => z, fun z y => ?_⟩
    have z := (kTmb_0 z).2
    have y := (kTmb_0 y).2
    rw [h4] at z
    rw [h5] at y
    rcases Gv_0 h1 with q | q | q
    · rw [q]; simp
    · exact absurd z q.2
    · exact absurd y q.2
  · rw [← h3]
    refine ⟨h4, h5, by split <;> omega, by split <;> omega, by omega, fun z => absurd rfl z, fun _ _ => ⟨by split <;> omega, by split <;> omega⟩⟩
