/-- of the village alone: also what means nothing is small -/
def jV (V : Nat → Nat → Nat) : Prop := ∀ p, p < 84 → V 6 p ≤ 3 ∧ V 7 p ≤ 99 ∧ V 8 p ≤ V 0 1 ∧ V 9 p < 128
/-- the versions of what was dropped and of the newest tombs -/
def dI (S : Nat → Nat) (N : Nat) : Prop := ∀ j, 33 ≤ j → j < 225 → S j ≤ N + 7
/-- a village of the class and a row of the reference in step, N above all clocks -/
def rA (V : Nat → Nat → Nat) (S : Nat → Nat) (N : Nat) : Prop := rV V S ∧ sI S ∧ mI S N ∧ jV V ∧ dI S N
theorem rA_le {V : Nat → Nat → Nat} {S : Nat → Nat} {N N' : Nat} (h : rA V S N) (hN : N ≤ N') : rA V S N' := ⟨h.1, h.2.1, mI_le h.2.2.1 hN, h.2.2.2.1, fun j a b => by have := h.2.2.2.2 j a b; omega⟩
theorem rA_b {V : Nat → Nat → Nat} {S : Nat → Nat} {N : Nat} (h : rA V S N) (hN : N ≤ 2 ^ 26 - 16) : bP V ∧ ∀ i, i < 7 → (V 2 i + 1) * 8 + i < 2 ^ 30 := by
  obtain ⟨hr, hs, ⟨hB, hW, hc, h1⟩, hj, hd⟩ := h
  have hdiv : ∀ p, p < 84 → p / 12 < 7 ∧ p % 12 < 12 ∧ p / 12 * 12 + p % 12 = p := fun p hp => ⟨by omega, by omega, by omega⟩
  refine ⟨⟨⟨fun k i a b c => ?_, fun k p a b c => ?_, fun t ht => ?_, ?_, ?_, ?_⟩, fun p hp => (hj p hp).2.2.1⟩, fun i hi => ?_⟩
  · obtain ⟨a1, a2, a3, a4⟩ := hr.2.1 i c
    rcases (show k = 1 ∨ k = 2 ∨ k = 3 by omega) with rfl | rfl | rfl
    · rw [a1]; exact hB.2.1 i 0 c (by decide) (by decide)
    · rw [a2]; exact hB.2.1 i 1 c (by decide) (by decide)
    · rw [a4]; exact hB.2.1 i 3 c (by decide) (by decide)
  · obtain ⟨p1, p2, p3⟩ := hdiv p c
    obtain ⟨j1, j2, j3, j4⟩ := hj p c
    have ht1 := hr.1.2.1
    rcases (show k = 5 ∨ k = 6 ∨ k = 7 ∨ k = 8 ∨ k = 9 ∨ k = 10 by omega) with rfl | rfl | rfl | rfl | rfl | rfl
    · have he := hr.2.2.1 (p / 12) (p % 12) p1 p2
      have hv := hs.2.1 (p / 12) (p % 12) p1 p2
      have hau := rV_au hr (p / 12) (p % 12) p1 p2
      unfold rE at he
      rw [p3] at he
      rcases he with he | he | he
      · rw [he.2]; decide
      · have h2 := hv (by omega)
        have h3 := hc _ (hau (by omega))
        omega
      · have h2 := hv (by omega)
        have h3 := hc _ (hau (by omega))
        omega
    · omega
    · omega
    · omega
    · omega
    · have h2 := hr.2.2.2.1 (p / 12) (p % 12) p1 p2
      have h3 := hd (57 + 24 * (p / 12) + 2 * (p % 12)) (by omega) (by omega)
      rw [p3] at h2
      omega
  · have h2 := hr.2.2.2.2 t ht
    have h3 := hd (33 + 2 * t) (by omega) (by omega)
    omega
  · rw [hr.1.1]; exact hB.2.2.1
  · rw [hr.1.2.1]; exact hB.2.2.2.1
  · rw [hr.1.2.2.1]; exact hB.2.2.2.2
  · have h2 := (hr.2.1 i hi).2.1
    have h3 := hc i hi
    omega

