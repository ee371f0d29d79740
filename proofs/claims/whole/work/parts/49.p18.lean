theorem kSt_o (V : Nat → Nat → Nat) {a b t k q : Nat} (ht : t < 12) (hk : k = 5 ∨ k = 6) (hq : q % 12 ≠ t) : kSt V a b t k q = V k q := by
  have h1 : ∀ U : Nat → Nat → Nat, kSh U a b t k q = U k q := by
    intro U
    unfold kSh
    split
    · rw [vU_n _ _ _ (by omega), vU_n _ _ _ (by omega)]
    · rfl
  have h2 : ∀ f p, kHn V t f p k q = V k q := by
    intro f p
    have hp : q ≠ p * 12 + t := by omega
    unfold kHn kH2
    simp only [vU_at, if_neg hp, ite_self]
    unfold kH1
    split
    · rw [vU_n _ _ _ (by omega)]
    · rfl
  unfold kSt
  rw [h1]
  split
  · rfl
  · exact h2 _ _
theorem kTt_o (V : Nat → Nat → Nat) (a b : Nat) {k q : Nat} (hk : k = 5 ∨ k = 6) : ∀ t, t ≤ 12 → t ≤ q % 12 → (kTt V a b t).1 k q = V k q
  | 0, _, _ => by
    show kT0 V a b k q = V k q
    unfold kT0
    rw [vU_n _ _ _ (by omega), vU_n _ _ _ (by omega)]
  | t + 1, h, hq => by
    rw [kTt_s]
    dsimp only
    rw [kSt_o _ (by omega) hk (by omega)]
    exact kTt_o V a b hk t (by omega) (by omega)
theorem kGv_o (V : Nat → Nat → Nat) (a b : Nat) {t : Nat} (ht : t < 12) : kGv (kTt V a b t).1 a b t = kGv V a b t := by
  unfold kGv kHand
  rw [kTt_o V a b (k := 5) (q := a * 12 + t) (Or.inl rfl) t (by omega) (by omega), kTt_o V a b (k := 5) (q := b * 12 + t) (Or.inl rfl) t (by omega) (by omega), kTt_o V a b (k := 6) (q := a * 12 + t) (Or.inr rfl) t (by omega) (by omega), kTt_o V a b (k := 6) (q := b * 12 + t) (Or.inr rfl) t (by omega) (by omega)]
theorem kTt_wp (V : Nat → Nat → Nat) (a b : Nat) : ∀ t, t ≤ 12 → (kTt V a b t).2 = cnt (fun t => decide (kGv V a b t ≠ 0)) t
  | 0, _ => rfl
  | t + 1, h => by
    rw [kTt_s, cnt_s]
    dsimp only
    rw [kTt_wp V a b t (by omega), kGv_o V a b (by omega)]
    by_cases hz : kGv V a b t = 0
    · rw [if_pos hz, if_neg (by rw [decide_eq_false (fun z => z hz)]; decide)]
    · rw [if_neg hz, if_pos (decide_eq_true hz)]
theorem kWp_eq {V : Nat → Nat → Nat} {S : Nat → Nat} {N o p : Nat} (h : rA V S N) (ho : o < S 0) (hp : p < S 0) (hop : o ≠ p) : kWp V o p = (mMeet S o p).2 := by
  rw [← (rA_tk h ho hp hop).2]
  unfold kTk kWp
  exact (kTt_wp V o p 12 (Nat.le_refl _)).symm

