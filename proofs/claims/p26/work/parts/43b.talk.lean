/-! a meeting, topic by topic -/
theorem H1_n (V : Nat → Nat → Nat) (t f p : Nat) {k : Nat} (h : k ≠ 4) : kH1 V t f p k = V k := by
  unfold kH1
  split
  · rw [vU_n _ _ _ h]
  · rfl
theorem Hn_n (V : Nat → Nat → Nat) (t f p : Nat) {k : Nat} (h : k < 4 ∨ 10 ≤ k) : kHn V t f p k = V k := by
  unfold kHn kH2
  rw [vU_n _ _ _ (by omega), vU_n _ _ _ (by omega), vU_n _ _ _ (by omega), vU_n _ _ _ (by omega), vU_n _ _ _ (by omega), H1_n _ _ _ _ (by omega)]
theorem Hn_4 (V : Nat → Nat → Nat) (t f p : Nat) : kHn V t f p 4 = V 4 ∨ kHn V t f p 4 = upN (V 4) p (V 4 p + 1) := by
  have e : kHn V t f p 4 = kH1 V t f p 4 := by unfold kHn kH2; simp (disch := decide) only [vU_n]
  rw [e]
  unfold kH1
  split
  · exact Or.inr (vU_s _ _ _ _)
  · exact Or.inl rfl
theorem Hn_k (V : Nat → Nat → Nat) (t f p : Nat) {k : Nat} (h : 5 ≤ k ∧ k ≤ 9) : kHn V t f p k = upN (V k) (p * 12 + t) (V k (f * 12 + t)) := by
  unfold kHn kH2
  rcases (show k = 5 ∨ k = 6 ∨ k = 7 ∨ k = 8 ∨ k = 9 by omega) with rfl | rfl | rfl | rfl | rfl <;> simp (disch := decide) only [vU_n, vU_s, H1_n]
theorem Sh_n (V : Nat → Nat → Nat) (a b t : Nat) {k : Nat} (h : k ≠ 9) : kSh V a b t k = V k := by
  unfold kSh
  split
  · rw [vU_n _ _ _ h, vU_n _ _ _ h]
  · rfl
theorem Sh_9 (V : Nat → Nat → Nat) (a b t j : Nat) : kSh V a b t 9 j = if (kTmb V (a * 12 + t) = true ∧ V 5 (a * 12 + t) = V 5 (b * 12 + t)) ∧ (j = a * 12 + t ∨ j = b * 12 + t) then kBoth V a b t else V 9 j := by
  unfold kSh
  by_cases h : kTmb V (a * 12 + t) = true ∧ V 5 (a * 12 + t) = V 5 (b * 12 + t)
  · rw [if_pos h, vUe, vUe]
    by_cases h1 : j = b * 12 + t
    · rw [if_pos h1, if_pos ⟨h, Or.inr h1⟩]
    · rw [if_neg h1]
      by_cases h2 : j = a * 12 + t
      · rw [if_pos h2, if_pos ⟨h, Or.inl h2⟩]
      · rw [if_neg h2, if_neg (fun z => by rcases z.2 with z | z <;> contradiction)]
  · rw [if_neg h, if_neg (fun z => h z.1)]
theorem kBoth_128 {V : Nat → Nat → Nat} {a b t : Nat} (h1 : V 9 (a * 12 + t) < 128) (h2 : V 9 (b * 12 + t) < 128) (ha : a < 7) (hb : b < 7) : kBoth V a b t < 128 := by
  have p : ∀ x, x < 7 → 2 ^ x < 2 ^ 7 := fun x hx => Nat.pow_lt_pow_right (by decide) hx
  exact Nat.or_lt_two_pow (n := 7) (Nat.or_lt_two_pow (Nat.or_lt_two_pow h1 h2) (p a ha)) (p b hb)
theorem kBoth_tb (V : Nat → Nat → Nat) (a b t i : Nat) : (kBoth V a b t).testBit i = ((V 9 (a * 12 + t)).testBit i || (V 9 (b * 12 + t)).testBit i || (2 ^ a).testBit i || (2 ^ b).testBit i) := by
  unfold kBoth
  rw [Nat.testBit_or, Nat.testBit_or, Nat.testBit_or]
theorem St_0 {V : Nat → Nat → Nat} {a b t : Nat} (h : kGv V a b t = 0) : kSt V a b t = kSh V a b t := by unfold kSt; rw [if_pos h]
theorem St_1 {V : Nat → Nat → Nat} {a b t f : Nat} (h : kGv V a b t = f + 1) : kSt V a b t = kSh (kHn V t f (if f = a then b else a)) a b t := by unfold kSt; rw [if_neg (by omega), h, Nat.add_sub_cancel]
theorem Gv_1 {V : Nat → Nat → Nat} {a b t f : Nat} (h : kGv V a b t = f + 1) : (f = a ∧ V 5 (b * 12 + t) < V 5 (a * 12 + t)) ∨ (f = b ∧ V 5 (a * 12 + t) < V 5 (b * 12 + t)) := by
  unfold kGv at h
  (repeat' split at h) <;> omega
theorem kHand_k {V : Nat → Nat → Nat} {t f p : Nat} (h : ¬ kHand V t f p = true) : V 6 (f * 12 + t) ≠ 3 := by
  unfold kHand at h
  intro z
  rw [if_neg (by omega), if_neg (by omega)] at h
  exact h rfl
theorem Gv_0 {V : Nat → Nat → Nat} {a b t : Nat} (h : kGv V a b t = 0) : V 5 (a * 12 + t) = V 5 (b * 12 + t) ∨ (V 5 (b * 12 + t) < V 5 (a * 12 + t) ∧ V 6 (a * 12 + t) ≠ 3) ∨ (V 5 (a * 12 + t) < V 5 (b * 12 + t) ∧ V 6 (b * 12 + t) ≠ 3) := by
  unfold kGv at h
  split at h
  · rename_i z; exact Or.inl z
  · split at h
    · rename_i z
      split at h
      · omega
      · rename_i y; exact Or.inr (Or.inl ⟨z, kHand_k y⟩)
    · split at h
      · omega
      · rename_i y; exact Or.inr (Or.inr ⟨by omega, kHand_k y⟩)
/-- J, where the sight of the two places is still to be shared -/
def K (V : Nat → Nat → Nat) (N G A B : Nat) : Prop :=
  V 0 0 ≤ 7 ∧ V 0 1 ≤ 4 * N ∧ (1 ≤ V 0 2 ∧ V 0 2 ≤ 30) ∧ V 0 3 ≤ N ∧
  (∀ i, i < 7 → V 1 i ≤ 2 ∧ V 2 i ≤ N ∧ V 3 i ≤ V 0 1 ∧ V 4 i ≤ G ∧ (V 1 i = 2 → ∀ t, t < 12 → V 5 (i * 12 + t) = 0)) ∧
  (∀ i t, i < 7 → t < 12 → V 5 (i * 12 + t) ≠ 0 → 8 ≤ V 5 (i * 12 + t) ∧ V 5 (i * 12 + t) / 8 ≤ V 2 i ∧ V 5 (i * 12 + t) % 8 < 7 ∧ (V 6 (i * 12 + t) = 3 → (¬ (V 6 A = 3 ∧ V 6 B = 3 ∧ V 5 A = V 5 B ∧ (i * 12 + t = A ∨ i * 12 + t = B)) → (V 9 (i * 12 + t)).testBit i = true) ∧ (V 9 (i * 12 + t)).testBit (V 5 (i * 12 + t) % 8) = true)) ∧
  (∀ p, p < 84 → V 6 p ≤ 3 ∧ V 7 p ≤ 99 ∧ V 8 p ≤ V 0 1 ∧ V 9 p < 128 ∧ V 10 p ≤ 8 * N + 7) ∧ ∀ t, t < 12 → V 11 t ≤ 8 * N + 7
theorem K_J {V : Nat → Nat → Nat} {N G : Nat} (A B : Nat) (h : J V N G) : K V N G A B := by
  obtain ⟨h0, h1, h2, h3, h4, h5, h6, h7⟩ := h
  refine ⟨h0, h1, h2, h3, h4, fun i t hi ht hne => ?_, h6, h7⟩
  obtain ⟨b1, b2, b3, b4⟩ := h5 i t hi ht hne
  exact ⟨b1, b2, b3, fun z => ⟨fun _ => (b4 z).1, (b4 z).2⟩⟩
theorem K_comm {V : Nat → Nat → Nat} {N G A B : Nat} (h : K V N G A B) : K V N G B A := by
  obtain ⟨h0, h1, h2, h3, h4, h5, h6, h7⟩ := h
  refine ⟨h0, h1, h2, h3, h4, fun i t hi ht hne => ?_, h6, h7⟩
  obtain ⟨b1, b2, b3, b4⟩ := h5 i t hi ht hne
  exact ⟨b1, b2, b3, fun z => ⟨fun y => (b4 z).1 (fun x => y ⟨x.2.1, x.1, x.2.2.1.symm, x.2.2.2.symm⟩), (b4 z).2⟩⟩
theorem K_Hn {V : Nat → Nat → Nat} {N G t f p : Nat} (h : J V N G) (hf : f < 7) (hp : p < 7) (ht : t < 12) (hne : f ≠ p) (hc : V 2 f = V 2 p) (hs : V 1 p ≠ 2) (hlt : V 5 (p * 12 + t) < V 5 (f * 12 + t)) : K (kHn V t f p) N (G + 1) (f * 12 + t) (p * 12 + t) := by
  have e0 := Hn_n V t f p (k := 0) (by decide)
  have e1 := Hn_n V t f p (k := 1) (by decide)
  have e2 := Hn_n V t f p (k := 2) (by decide)
  have e3 := Hn_n V t f p (k := 3) (by decide)
  have e4 := Hn_4 V t f p
  have e5 := Hn_k V t f p (k := 5) (by decide)
  have e6 := Hn_k V t f p (k := 6) (by decide)
  have e7 := Hn_k V t f p (k := 7) (by decide)
  have e8 := Hn_k V t f p (k := 8) (by decide)
  have e9 := Hn_k V t f p (k := 9) (by decide)
  have e10 := Hn_n V t f p (k := 10) (by decide)
  have e11 := Hn_n V t f p (k := 11) (by decide)
  generalize kHn V t f p = V' at *
  have hFP : f * 12 + t ≠ p * 12 + t := by omega
  obtain ⟨h0, h1, h2, h3, h4, h5, h6, h7⟩ := h
  have hF := h5 f t hf ht (by omega)
  refine ⟨by rw [e0]; exact h0, by rw [e0]; exact h1, by rw [e0]; exact h2, by rw [e0]; exact h3, fun i hi => ?_, fun i s hi hs' hq => ?_, fun q hq => ?_, by rw [e11]; exact h7⟩
  · obtain ⟨a1, a2, a3, a4, a5⟩ := h4 i hi
    rw [e0, e1, e2, e3]
    refine ⟨a1, a2, a3, ?_, fun z s hs' => ?_⟩
    · have := (h4 p hp).2.2.2.1
      rcases e4 with e4 | e4
      · rw [e4]; omega
      · rw [e4]
        unfold upN
        split <;> omega
    · rw [e5, upN_n _ _ (fun q => by have := (pl_inj hs' ht).mp q; exact hs (by rw [← this.1]; exact z))]
      exact a5 z s hs'
  · by_cases hP : i * 12 + s = p * 12 + t
    · obtain ⟨rfl, rfl⟩ := (pl_inj hs' ht).mp hP
      rw [e2, e5, e6, e9, upN_s, upN_s, upN_s, upN_n _ _ hFP, upN_n _ _ hFP]
      refine ⟨hF.1, by rw [← hc]; exact hF.2.1, hF.2.2.1, fun z => ⟨fun y => absurd ⟨z, z, rfl, Or.inr rfl⟩ y, (hF.2.2.2 z).2⟩⟩
    · rw [e5, upN_n _ _ hP] at hq
      rw [e2, e5, e6, e9, upN_n _ _ hP, upN_n _ _ hP, upN_n _ _ hP]
      obtain ⟨b1, b2, b3, b4⟩ := h5 i s hi hs' hq
      exact ⟨b1, b2, b3, fun z => ⟨fun _ => (b4 z).1, (b4 z).2⟩⟩
  · obtain ⟨c1, c2, c3, c4, c5⟩ := h6 q hq
    obtain ⟨d1, d2, d3, d4, d5⟩ := h6 (f * 12 + t) (by omega)
    rw [e0, e6, e7, e8, e9, e10]
    unfold upN
    refine ⟨by split <;> omega, by split <;> omega, by split <;> omega, by split <;> omega, c5⟩
theorem J_Sh {V : Nat → Nat → Nat} {N G a b t : Nat} (h : K V N G (a * 12 + t) (b * 12 + t)) (ha : a < 7) (hb : b < 7) (ht : t < 12) : J (kSh V a b t) N G := by
  have en : ∀ k, k ≠ 9 → kSh V a b t k = V k := fun k z => Sh_n V a b t z
  have e9 := Sh_9 V a b t
  generalize kSh V a b t = V' at *
  obtain ⟨h0, h1, h2, h3, h4, h5, h6, h7⟩ := h
  rw [J, en 0 (by decide), en 1 (by decide), en 2 (by decide), en 3 (by decide), en 4 (by decide), en 5 (by decide), en 6 (by decide), en 7 (by decide), en 8 (by decide), en 10 (by decide), en 11 (by decide)]
  refine ⟨h0, h1, h2, h3, h4, fun i s hi hs hq => ?_, fun q hq => ?_, h7⟩
  · obtain ⟨b1, b2, b3, b4⟩ := h5 i s hi hs hq
    refine ⟨b1, b2, b3, fun z => ?_⟩
    obtain ⟨b5, b6⟩ := b4 z
    rw [e9]
    by_cases hc : (kTmb V (a * 12 + t) = true ∧ V 5 (a * 12 + t) = V 5 (b * 12 + t)) ∧ (i * 12 + s = a * 12 + t ∨ i * 12 + s = b * 12 + t)
    · rw [if_pos hc, kBoth_tb, kBoth_tb]
      rcases hc.2 with hx | hx
      · obtain ⟨rfl, rfl⟩ := (pl_inj hs ht).mp hx
        rw [b6, Nat.testBit_two_pow_self]
        simp
      · obtain ⟨rfl, rfl⟩ := (pl_inj hs ht).mp hx
        rw [b6, Nat.testBit_two_pow_self]
        simp
    · rw [if_neg hc]
      refine ⟨b5 (fun y => hc ⟨⟨?_, y.2.2.1⟩, y.2.2.2⟩), b6⟩
      refine decide_eq_true ⟨?_, y.1⟩
      rcases y.2.2.2 with hx | hx
      · rw [← hx]; exact hq
      · rw [y.2.2.1, ← hx]; exact hq
  · obtain ⟨c1, c2, c3, c4, c5⟩ := h6 q hq
    refine ⟨c1, c2, c3, ?_, c5⟩
    rw [e9]
    split
    · exact kBoth_128 (h6 _ (by omega)).2.2.2.1 (h6 _ (by omega)).2.2.2.1 ha hb
    · exact c4
theorem K_le {V : Nat → Nat → Nat} {N G A B : Nat} (h : K V N G A B) : K V N (G + 1) A B := by
  obtain ⟨h0, h1, h2, h3, h4, h5, h6, h7⟩ := h
  refine ⟨h0, h1, h2, h3, fun i hi => ?_, h5, h6, h7⟩
  obtain ⟨a1, a2, a3, a4, a5⟩ := h4 i hi
  exact ⟨a1, a2, a3, by omega, a5⟩
theorem J_St {V : Nat → Nat → Nat} {N G a b t : Nat} (h : J V N G) (ha : a < 7) (hb : b < 7) (ht : t < 12) (hne : a ≠ b) (hc : V 2 a = V 2 b) (hsa : V 1 a ≠ 2) (hsb : V 1 b ≠ 2) : J (kSt V a b t) N (G + 1) := by
  rcases hG : kGv V a b t with _ | f
  · rw [St_0 hG]
    exact J_Sh (K_le (K_J _ _ h)) ha hb ht
  · rw [St_1 hG]
    rcases Gv_1 hG with ⟨rfl, hl⟩ | ⟨rfl, hl⟩
    · rw [if_pos rfl]
      exact J_Sh (K_Hn h ha hb ht hne hc hsb hl) ha hb ht
    · rw [if_neg (Ne.symm hne)]
      exact J_Sh (K_comm (K_Hn h hb ha ht (Ne.symm hne) hc.symm hsa hl)) ha hb ht
