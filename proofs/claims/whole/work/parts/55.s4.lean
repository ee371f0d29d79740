theorem mAB_c {S T : Nat → Nat} (h0 : T 0 = S 0) (hs : ∀ v, v < S 0 → T (5 + 4 * v + 0) = S (5 + 4 * v + 0)) : ∀ f k, mAB T f k = mAB S f k
  | 0, _ => rfl
  | f + 1, k => by
    show (if k < T 0 ∧ T (5 + 4 * k + 0) ≠ 0 then mAB T f (k + 1) else k) = (if k < S 0 ∧ S (5 + 4 * k + 0) ≠ 0 then mAB S f (k + 1) else k)
    rw [h0, mAB_c h0 hs f (k + 1)]
    by_cases hk : k < S 0
    · rw [hs k hk]
    · rw [if_neg (fun z => hk z.1), if_neg (fun z => hk z.1)]
theorem mNx_c {S T : Nat → Nat} (h0 : T 0 = S 0) (hs : ∀ v, v < S 0 → T (5 + 4 * v + 0) = S (5 + 4 * v + 0)) (k : Nat) : mNx T k = mNx S k := by
  unfold mNx
  rw [h0]
  exact mAB_c h0 hs _ _
theorem mRdF_s (a f : Nat) (S : Nat → Nat) (v : Nat) : mRdF a (f + 1) S v = if v < S 0 then mRdF a f (mRdS S a v) (mNx (mRdS S a v) (v + 1)) else S := rfl
theorem mRdF_o {a f : Nat} {S : Nat → Nat} {v : Nat} (h : S 0 ≤ v) : mRdF a f S v = S := by
  rcases f with _ | f
  · rfl
  · rw [mRdF_s, if_neg (by omega)]
theorem cnt_one {p : Nat → Bool} (a : Nat) : ∀ n, (∀ i, i < n → p i = true → i = a) → cnt p n ≤ 1
  | 0, _ => Nat.zero_le _
  | n + 1, h => by
    rw [cnt_s]
    have ih := cnt_one a n (fun i hi => h i (by omega))
    by_cases hn : p n = true
    · have e := h n (by omega) hn
      have z : cnt p n = 0 := by
        have : ∀ m, m ≤ n → cnt p m = 0 := fun m => by
          induction m with
          | zero => intro _; rfl
          | succ m im =>
            intro hm
            rw [cnt_s, im (by omega), if_neg]
            intro hp
            have := h m (by omega) hp
            omega
        exact this n (Nat.le_refl _)
      rw [z, if_pos hn]
      exact Nat.le_refl _
    · rw [if_neg hn]
      omega
theorem sim_mi {V : Nat → Nat → Nat} {S : Nat → Nat} (h : rV V S) (hs : sI S) (h7 : S 0 ≤ 7) : ∀ k, k ≤ S 0 → ∃ T : Nat → Nat, rV (kMi V k).1 T ∧ sI T ∧ T 0 = S 0 ∧ (∀ v, v < 7 → T (5 + 4 * v + 0) = S (5 + 4 * v + 0)) ∧ ((kMi V k).2.2 = 0 → T = S ∧ ∀ u, u < k → S (5 + 4 * u + 0) ≠ 0) ∧ (∀ l, (kMi V k).2.2 = l + 1 → l < k ∧ S (5 + 4 * l + 0) = 0 ∧ (∀ u, l < u → u < k → S (5 + 4 * u + 0) ≠ 0) ∧ (kMi V k).2.1 = mNx S 0 + 1 ∧ mNx S 0 ≤ l ∧ ∃ f, S 0 - l + 1 ≤ f ∧ mRound S = mRdF (mNx S 0) f T l)
  | 0, _ => ⟨S, h, hs, rfl, fun _ _ => rfl, fun _ => ⟨rfl, fun u hu => absurd hu (Nat.not_lt_zero u)⟩, fun l hl => absurd hl (Nat.succ_ne_zero l).symm⟩
  | k + 1, hk => by
    obtain ⟨T, r, s, e0, es, c1, c2⟩ := sim_mi h hs h7 k (by omega)
    have hst : (kMi V k).1 1 k = S (5 + 4 * k + 0) := (r.2.1 k (by omega)).1.trans (es k (by omega))
    rw [kMi_s]
    by_cases hz : S (5 + 4 * k + 0) = 0
    · rw [if_pos (hst.trans hz)]
      rcases hL : (kMi V k).2.2 with _ | l
      · rw [if_pos rfl]
        obtain ⟨hT, hn⟩ := c1 hL
        subst hT
        have ha : mNx T 0 = k := mNx_is (Nat.zero_le k) (fun u _ hu => ⟨by omega, hn u hu⟩) (fun z => z.2 hz)
        refine ⟨T, r, s, e0, es, fun z => absurd z (Nat.succ_ne_zero _), fun l hl => ?_⟩
        dsimp only at hl ⊢
        obtain rfl : l = k := by omega
        refine ⟨by omega, hz, fun u a b => by omega, by rw [ha], by omega, T 0 + 1, by omega, ?_⟩
        unfold mRound
        rw [ha]
      · rw [if_neg (Nat.succ_ne_zero l), Nat.add_sub_cancel]
        dsimp only
        obtain ⟨d1, d2, d3, d4, d5, f, d6, d7⟩ := c2 l hL
        obtain ⟨q1, q2, q3⟩ := sim_tk r s (by rw [e0]; exact h7) (o := l) (p := k) (by omega) (by omega) (by omega)
        have w0 : (mMeet T l k).1 0 = S 0 := (mMeet_lo T (by omega) (by omega) (by decide) (by decide) (by decide)).trans e0
        have ws : ∀ v, v < 7 → (mMeet T l k).1 (5 + 4 * v + 0) = S (5 + 4 * v + 0) := fun v hv => (mMeet_lo T (by omega) (by omega) (by omega) (by omega) (by omega)).trans (es v hv)
        have hnx : mNx S (l + 1) = k := mNx_is (by omega) (fun u a b => ⟨by omega, d3 u (by omega) b⟩) (fun z => z.2 hz)
        refine ⟨(mMeet T l k).1, q1, q2, w0, ws, fun z => absurd z (Nat.succ_ne_zero _), fun l' hl' => ?_⟩
        obtain rfl : l' = k := by omega
        rcases f with _ | f
        · omega
        refine ⟨by omega, hz, fun u a b => by omega, d4, by omega, f, by omega, ?_⟩
        have hrd : mRdS T (mNx S 0) l = (mMeet T l l').1 := by
          unfold mRdS
          rw [mNx_c e0 (fun v hv => es v (by omega)), hnx, if_pos (by omega)]
        rw [d7, mRdF_s, if_pos (by omega), hrd, mNx_c w0 (fun v hv => ws v (by omega)), hnx]
    · rw [if_neg (fun z => hz (hst.symm.trans z))]
      refine ⟨T, r, s, e0, es, fun z => ⟨(c1 z).1, fun u hu => ?_⟩, fun l hl => ?_⟩
      · by_cases hu2 : u = k
        · subst hu2; exact hz
        · exact (c1 z).2 u (by omega)
      · obtain ⟨d1, d2, d3, d4, d5, f, d6, d7⟩ := c2 l hl
        refine ⟨by omega, d2, fun u a b => ?_, d4, d5, f, d6, d7⟩
        by_cases hu2 : u = k
        · subst hu2; exact hz
        · exact d3 u a (by omega)
theorem sim_round {V : Nat → Nat → Nat} {S : Nat → Nat} (h : rV V S) (hs : sI S) (h7 : S 0 ≤ 7) : rV (kMeetIn V) (mRound S) ∧ sI (mRound S) ∧ mRound S 0 = S 0 := by
  obtain ⟨T, r, s, e0, es, c1, c2⟩ := sim_mi h hs h7 (S 0) (Nat.le_refl _)
  have hm := rV_many r (by rw [e0]; exact h7) 0
  unfold kMeetIn
  rw [h.1.1, hm]
  rcases hL : (kMi V (S 0)).2.2 with _ | l
  · obtain ⟨hT, hn⟩ := c1 hL
    subst hT
    have hcz : mMany T 0 ≤ 1 := by
      unfold mMany
      exact cnt_one 0 _ (fun i hi hp => absurd (of_decide_eq_true hp) (hn i hi))
    have ha : mNx T 0 = T 0 := mNx_is (Nat.zero_le _) (fun u _ hu => ⟨hu, hn u hu⟩) (fun z => absurd z.1 (Nat.lt_irrefl _))
    have hr : mRound T = T := by
      unfold mRound
      exact mRdF_o (by omega)
    rw [if_neg (by omega), hr]
    exact ⟨r, s, rfl⟩
  · obtain ⟨d1, d2, d3, d4, d5, f, d6, d7⟩ := c2 l hL
    rcases f with _ | f
    · omega
    have hnx : mNx S (l + 1) = S 0 := mNx_is (by omega) (fun u a b => ⟨b, d3 u (by omega) b⟩) (fun z => absurd z.1 (Nat.lt_irrefl _))
    have hmm : mMany T 0 = mMany S 0 := by
      unfold mMany
      rw [e0]
      exact cnt_congr _ (fun i hi => by rw [es i (by omega)])
    rw [d4, Nat.add_sub_cancel, Nat.add_sub_cancel, d7, mRdF_s, if_pos (show l < T 0 by omega)]
    unfold mRdS
    rw [mNx_c e0 (fun v hv => es v (by omega)), hnx, if_neg (show ¬ S 0 < T 0 by omega)]
    by_cases h2 : 2 < mMany T 0
    · rw [if_pos h2, if_pos h2]
      have hne : l ≠ mNx S 0 := by
        intro hla
        have hc1 : mMany S 0 ≤ 1 := by
          unfold mMany
          refine cnt_one l _ (fun i hi hp => ?_)
          have hp0 := of_decide_eq_true hp
          obtain ⟨i1, i2⟩ := mNx_i S (S 0 - 0) 0 (Nat.le_refl _)
          rcases Nat.lt_trichotomy i l with e | e | e
          · exact absurd hp0 (i1 i (Nat.zero_le _) (by omega)).2
          · exact e
          · exact absurd hp0 (d3 i e hi)
        omega
      obtain ⟨q1, q2, q3⟩ := sim_tk r s (by rw [e0]; exact h7) (o := l) (p := mNx S 0) (by omega) (by omega) hne
      have w0 : (mMeet T l (mNx S 0)).1 0 = S 0 := (mMeet_lo T (by omega) (by omega) (by decide) (by decide) (by decide)).trans e0
      have ws : ∀ v, v < S 0 → (mMeet T l (mNx S 0)).1 (5 + 4 * v + 0) = S (5 + 4 * v + 0) := fun v hv => (mMeet_lo T (by omega) (by omega) (by omega) (by omega) (by omega)).trans (es v (by omega))
      rw [mNx_c w0 ws, hnx, mRdF_o (by omega)]
      exact ⟨q1, q2, w0⟩
    · rw [if_neg h2, if_neg h2, mNx_c e0 (fun v hv => es v (by omega)), hnx, mRdF_o (by omega)]
      exact ⟨r, s, e0⟩
theorem sim_rF {n : Nat} : ∀ f (V : Nat → Nat → Nat) (S : Nat → Nat), rV V S → sI S → S 0 ≤ 7 → ∀ n, (qrF f V n).1 = (rdF f S n).1 ∧ kAl (qrF f V n).2 = mAll (rdF f S n).2
  | 0, V, S, h, hs, h7, n => ⟨rfl, kAl_eq h h7⟩
  | f + 1, V, S, h, hs, h7, n => by
    show (if kAl V = true then (n, V) else qrF f (kMeetIn V) (n + 1)).1 = (if mAll S = true then (n, S) else rdF f (mRound S) (n + 1)).1 ∧ kAl (if kAl V = true then (n, V) else qrF f (kMeetIn V) (n + 1)).2 = mAll (if mAll S = true then (n, S) else rdF f (mRound S) (n + 1)).2
    have e := kAl_eq h h7
    by_cases hc : mAll S = true
    · rw [if_pos (e.trans hc), if_pos hc]
      exact ⟨rfl, e⟩
    · rw [if_neg (fun z => hc (e.symm.trans z)), if_neg hc]
      obtain ⟨q1, q2, q3⟩ := sim_round h hs h7
      exact sim_rF (n := n) f _ _ q1 q2 (by rw [q3]; exact h7) (n + 1)
theorem qRds_eq {V : Nat → Nat → Nat} {S : Nat → Nat} (U : Nat → Nat → Nat) (h : rV V S) (hs : sI S) (h7 : S 0 ≤ 7) : qRds (kCp U V) = mRounds S := by
  have q := sim_rF (n := 0) 7 _ _ (rV_cp U h) hs h7 0
  unfold qRds mRounds
  rw [q.1, q.2]
