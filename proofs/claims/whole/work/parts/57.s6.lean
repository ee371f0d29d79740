theorem rG_does {V : Nat → Nat → Nat} {S : Nat → Nat} {N : Nat} (h : rG V S N) (hN : N + 1 < 2 ^ 30) (c : Nat) (G : Nat → Nat) : rG (kDoes V c G).1 (mDoes S c G).1 (N + 1) ∧ (kDoes V c G).2 = (mDoes S c G).2 ∧ okR (mDoes S c G).2 := by
  have h7 := h.1.2.2.1.1.2.2.1
  have hI := h.1.2.2.1
  rcases (show c = 98 ∨ c = 109 ∨ c = 115 ∨ c = 116 ∨ c = 119 ∨ (c ≠ 98 ∧ c ≠ 109 ∧ c ≠ 115 ∧ c ≠ 116 ∧ c ≠ 119) by omega) with rfl | rfl | rfl | rfl | rfl | hd
  · rw [kDoes_98, mDoes_98]
    have q := rA_mt h.1 hN (nI (G 0)) (nI (G 1))
    exact ⟨⟨q.1, gI_mt h.2 h7 _ _⟩, q.2, okR_mt hI hN _ _⟩
  · rw [kDoes_109, mDoes_109]
    have q := rA_meet h.1 (nI (G 0)) (nI (G 1))
    refine ⟨⟨rA_le q.1 (by omega), gI_meet h.2 h7 _ _⟩, q.2, ?_⟩
    rw [← q.2]
    exact okR_kt (by rw [h.1.1.1.1]; exact h7) _ _
  · rw [kDoes_115, mDoes_115]
    have q := rA_sl h.1 (nI (G 0))
    exact ⟨⟨rA_le q.1 (by omega), gI_sl h.2 h7 _⟩, q.2, okR_sl h7 _⟩
  · rw [kDoes_116, mDoes_116]
    have q := rA_mr h.1 hN (nI (G 0)) (nI (G 1)) (nI (G 2)) (nI 0)
    exact ⟨⟨q.1, gI_mr h.2 h7 _ _ _ _⟩, q.2, okR_mr hI hN _ _ _ _⟩
  · rw [kDoes_119, mDoes_119]
    have q := rA_wk h.1 (nI (G 0))
    exact ⟨⟨rA_le q.1 (by omega), gI_wk h.2 h7 _⟩, q.2, okR_wk h.1.2.1 h7 hI.2.2.2 _⟩
  · rw [kDoes_d _ _ hd, mDoes_d _ _ hd]
    have q := rG_tick h (nI (G 0))
    exact ⟨⟨rA_le q.1.1 (by omega), q.1.2⟩, q.2, okR_tk h7 _⟩
theorem there_eq {V : Nat → Nat → Nat} {S : Nat → Nat} {c : Nat} {G M : Nat → Nat} (hV : V 0 0 = S 0) (hn : 0 < tNums c) (h : ∀ j, j < tNums c → G j = M j) : kThere V c M = tThere S c G := by
  have h0 := h 0 hn
  unfold kThere tThere
  rw [hV, h0]
  rcases (show c = 116 ∨ c = 98 ∨ c = 109 ∨ c = 115 ∨ c = 119 ∨ c = 110 ∨ tNums c = 0 by unfold tNums; (repeat' split) <;> omega) with rfl | rfl | rfl | rfl | rfl | rfl | hz
  · rw [h 1 (by decide)]; simp
  · rw [h 1 (by decide)]; simp
  · rw [h 1 (by decide)]; simp
  · simp
  · simp
  · simp
  · omega
theorem kSF_4 (O : Nat → Nat → Nat) (p r : Nat) : kSF O p r 0 4 = p := rfl
theorem kSF_5 (O : Nat → Nat → Nat) (p r : Nat) : kSF O p r 0 5 = r := rfl
theorem kSF_3 (O : Nat → Nat → Nat) (p r : Nat) : kSF O p r 0 3 = O 0 3 := rfl
/-- one order in both -/
theorem ord_eq {V O : Nat → Nat → Nat} {S : Nat → Nat} {N X s e : Nat} (G : Nat → Nat) (h : rG V S N) (hN : N + 1 < 2 ^ 30) (hse : s ≤ e) (he : O 1 e = 59) (heX : e < X) (hns : ∀ i, s ≤ i → i < e → O 1 i ≠ 59) : tO V O s e = tRs (O 1) X S s G ∧ (tO V O s e = 0 → (tForm (O 1) X (O 1 s) (s + 1) G).2.1 = e + 1 ∧ rG (tOV V O s e) (tNS (O 1) X S s G) (N + 1)) := by
  obtain ⟨f1, f2⟩ := form_eq G (O 2) hse he heX hns
  unfold tO tRs tOV tNS
  rw [f1]
  by_cases hk : rOk (O 1) s e (O 2) = true
  · obtain ⟨f3, f4⟩ := f2 hk
    have hn : 0 < tNums (O 1 s) := by
      unfold rOk at hk
      rw [Bool.and_eq_true, decide_eq_true_eq] at hk
      exact hk.2.1
    have ht := there_eq (V := V) (S := S) h.1.1.1.1 hn f4
    have hm : mDoes S (O 1 s) (tForm (O 1) X (O 1 s) (s + 1) G).2.2 = mDoes S (O 1 s) (rAll (O 1) s e (O 2)).2.2.2.2 := mDoes_G S (fun j hj => f4 j (by omega))
    rw [if_pos hk, if_pos hk, ht, hm]
    by_cases hth : tThere S (O 1 s) (tForm (O 1) X (O 1 s) (s + 1) G).2.2 = true
    · obtain ⟨q1, q2, q3⟩ := rG_does h hN (O 1 s) (rAll (O 1) s e (O 2)).2.2.2.2
      have hb2 : rOk (O 1) s e (O 2) = true ∧ tThere S (O 1 s) (tForm (O 1) X (O 1 s) (s + 1) G).2.2 = true := ⟨hk, hth⟩
      rw [if_pos hth, if_pos hth, if_pos hb2, if_pos hb2, q2]
      refine ⟨?_, fun _ => ⟨f3, q1⟩⟩
      by_cases hr : -1000001 < (mDoes S (O 1 s) (rAll (O 1) s e (O 2)).2.2.2.2).2
      · rw [if_pos hr, if_neg (fun z => (q3.mp z) hr)]
      · rw [if_neg hr, if_pos (q3.mpr hr)]
    · rw [if_neg hth, if_neg hth]
      exact ⟨rfl, fun z => by cases z⟩
  · rw [if_neg hk, if_neg hk]
    exact ⟨rfl, fun z => by cases z⟩
theorem sim_kC {V O : Nat → Nat → Nat} {S : Nat → Nat} {N X : Nat} (G : Nat → Nat) (h : rG V S N) (hN : N + 100 < 2 ^ 30) (h60 : X ≤ 60) : ∀ e, e ≤ X →
    ((kC V O e).1 = false → (∀ i, (kC V O e).2.2.2 ≤ i → i < e → O 1 i ≠ 59) ∧ ∃ (S' G' : Nat → Nat) (f : Nat), rG (kC V O e).2.1 S' (N + e) ∧ X - (kC V O e).2.2.2 ≤ f ∧ fF (O 1) X X S 0 G = fF (O 1) X f S' (kC V O e).2.2.2 G' ∧ pF (O 1) X X S 0 G 0 = pF (O 1) X f S' (kC V O e).2.2.2 G' ((kC V O e).2.2.1 0 3)) ∧
    ((kC V O e).1 = true → fF (O 1) X X S 0 G = ((kC V O e).2.2.1 0 4 + 1, (kC V O e).2.2.1 0 5) ∧ 0 < (kC V O e).2.2.1 0 5)
  | 0, _ => ⟨fun _ => ⟨fun i a b => absurd b (Nat.not_lt_zero i), S, G, X, h, Nat.sub_le _ _, rfl, rfl⟩, fun z => absurd z Bool.false_ne_true⟩
  | e + 1, he => by
    obtain ⟨i1, i2⟩ := sim_kC G h hN h60 e (by omega)
    obtain ⟨o1, o2, o3⟩ := kC_O V O e
    rw [kC_s]
    rcases hx : kC V O e with ⟨b, V', O', s⟩
    rw [hx] at i1 i2 o1 o2 o3
    dsimp only at i1 i2 o1 o2 o3 ⊢
    rcases b with _ | _
    · rw [if_neg Bool.false_ne_true]
      obtain ⟨j1, S', G', f, j2, j3, j4, j5⟩ := i1 rfl
      by_cases h59 : O 1 e = 59
      · rw [if_pos h59]
        unfold kSO
        dsimp only
        obtain ⟨k1, k2⟩ := ord_eq (O := O') (X := X) G' j2 (by omega) o3 (by rw [o1]; exact h59) (by omega) (fun i a b => by rw [o1]; exact j1 i a b)
        rw [o1] at k1 k2
        have hf0 : 0 < f := by omega
        rw [fF_s (by omega) hf0, ← k1] at j4
        rw [pF_s (by omega) hf0] at j5
        by_cases hz : tO V' O' s e = 0
        · obtain ⟨k3, k4⟩ := k2 hz
          rw [if_pos hz]
          dsimp only
          rw [hz, if_neg (Nat.lt_irrefl 0), k3] at j4
          rw [k3] at j5
          refine ⟨fun _ => ⟨fun i a b => by omega, _, _, f - 1, k4, by omega, j4, j5⟩, fun z => absurd z Bool.false_ne_true⟩
        · rw [if_neg hz]
          dsimp only
          rw [if_pos (by omega)] at j4
          refine ⟨fun z => absurd z.symm Bool.false_ne_true, fun _ => ⟨j4, ?_⟩⟩
          show 0 < tO V' O' s e
          omega
      · rw [if_neg h59]
        refine ⟨fun _ => ⟨fun i a b => ?_, S', G', f, ⟨rA_le j2.1 (by omega), j2.2⟩, j3, j4, j5⟩, fun z => absurd z Bool.false_ne_true⟩
        by_cases hi : i = e
        · subst hi; exact h59
        · exact j1 i a (by omega)
    · rw [if_pos rfl]
      exact ⟨fun z => absurd z.symm Bool.false_ne_true, i2⟩
/-- what carrying out the text comes to -/
theorem sim_carry {V O : Nat → Nat → Nat} {S : Nat → Nat} {N : Nat} (G : Nat → Nat) (h : rG V S N) (hN : N + 100 < 2 ^ 26 - 16) (h60 : O 0 1 ≤ 60) : cOk V O ∧
    ((kCarry V O).2 0 5 = 0 → fF (O 1) (O 0 1) (O 0 1) S 0 G = (0, 0) ∧ (pF (O 1) (O 0 1) (O 0 1) S 0 G 0).1 = (kCarry V O).2 0 3 ∧ rG (kCarry V O).1 (pF (O 1) (O 0 1) (O 0 1) S 0 G 0).2 (N + 60)) ∧
    ((kCarry V O).2 0 5 ≠ 0 → fF (O 1) (O 0 1) (O 0 1) S 0 G = ((kCarry V O).2 0 4 + 1, (kCarry V O).2 0 5)) := by
  refine ⟨fun e he hF => ?_, ?_⟩
  · obtain ⟨-, S', G', f, j2, -⟩ := (sim_kC (O := O) G h (by omega) h60 e he).1 hF
    exact rA_b j2.1 (by omega)
  · obtain ⟨i1, i2⟩ := sim_kC (O := O) G h (by omega) h60 (O 0 1) (Nat.le_refl _)
    obtain ⟨o1, o2, o3⟩ := kC_O V O (O 0 1)
    unfold kCarry
    by_cases hb : (kC V O (O 0 1)).1 = true
    · rw [if_pos hb]
      dsimp only
      obtain ⟨j1, j2⟩ := i2 hb
      exact ⟨fun z => by omega, fun _ => j1⟩
    · rw [if_neg hb]
      dsimp only
      obtain ⟨j1, S', G', f, j2, j3, j4, j5⟩ := i1 (Bool.eq_false_iff.mpr hb)
      rw [kSF_5, kSF_4, kSF_3]
      by_cases hs : (kC V O (O 0 1)).2.2.2 < O 0 1
      · rw [if_pos hs]
        refine ⟨fun z => by omega, fun _ => ?_⟩
        have hr : tRs (O 1) (O 0 1) S' (kC V O (O 0 1)).2.2.2 G' = 1 := by
          unfold tRs
          rw [if_neg]
          rw [form_no G' hs j1]
          exact Bool.false_ne_true
        rw [j4, fF_s hs (by omega), hr, if_pos (by decide)]
      · rw [if_neg hs]
        rw [fF_d (show O 0 1 ≤ (kC V O (O 0 1)).2.2.2 by omega)] at j4
        rw [pF_d (show O 0 1 ≤ (kC V O (O 0 1)).2.2.2 by omega)] at j5
        refine ⟨fun _ => ⟨j4, ?_, ?_⟩, fun z => absurd rfl z⟩
        · rw [j5]
        · rw [j5]
          exact ⟨rA_le j2.1 (by omega), j2.2⟩
